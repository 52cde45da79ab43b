theorem dX4_stall_97 : decode cX4_stall 97 = .ok (.putfield 89, 3) := by decide +kernel
theorem dX4_stall_100 : decode cX4_stall 100 = .ok (.aload_n 0, 1) := by decide +kernel
theorem dX4_stall_101 : decode cX4_stall 101 = .ok (.getfield 10, 3) := by decide +kernel
theorem dX4_stall_104 : decode cX4_stall 104 = .ok (.iload 7, 2) := by decide +kernel
theorem dX4_stall_106 : decode cX4_stall 106 = .ok (.iconst 0, 1) := by decide +kernel
theorem dX4_stall_107 : decode cX4_stall 107 = .ok (.iload_n 1, 1) := by decide +kernel
theorem dX4_stall_108 : decode cX4_stall 108 = .ok (.invokevirtual 93, 3) := by decide +kernel
theorem dX4_stall_111 : decode cX4_stall 111 = .ok (.pop, 1) := by decide +kernel
theorem dX4_stall_112 : decode cX4_stall 112 = .ok (.aload_n 0, 1) := by decide +kernel
theorem dX4_stall_113 : decode cX4_stall 113 = .ok (.getfield 10, 3) := by decide +kernel
theorem dX4_stall_116 : decode cX4_stall 116 = .ok (.iload 7, 2) := by decide +kernel
theorem dX4_stall_118 : decode cX4_stall 118 = .ok (.iconst 1, 1) := by decide +kernel
theorem dX4_stall_119 : decode cX4_stall 119 = .ok (.iload_n 2, 1) := by decide +kernel
theorem dX4_stall_120 : decode cX4_stall 120 = .ok (.invokevirtual 93, 3) := by decide +kernel
theorem dX4_stall_123 : decode cX4_stall 123 = .ok (.pop, 1) := by decide +kernel
theorem dX4_stall_124 : decode cX4_stall 124 = .ok (.aload_n 0, 1) := by decide +kernel
theorem dX4_stall_125 : decode cX4_stall 125 = .ok (.getfield 10, 3) := by decide +kernel
theorem dX4_stall_128 : decode cX4_stall 128 = .ok (.iload 7, 2) := by decide +kernel
theorem dX4_stall_130 : decode cX4_stall 130 = .ok (.iconst 2, 1) := by decide +kernel
theorem dX4_stall_131 : decode cX4_stall 131 = .ok (.iload_n 3, 1) := by decide +kernel
theorem dX4_stall_132 : decode cX4_stall 132 = .ok (.invokevirtual 93, 3) := by decide +kernel
theorem dX4_stall_135 : decode cX4_stall 135 = .ok (.pop, 1) := by decide +kernel
theorem dX4_stall_136 : decode cX4_stall 136 = .ok (.aload_n 0, 1) := by decide +kernel
theorem dX4_stall_137 : decode cX4_stall 137 = .ok (.getfield 10, 3) := by decide +kernel
theorem dX4_stall_140 : decode cX4_stall 140 = .ok (.iload 7, 2) := by decide +kernel
theorem dX4_stall_142 : decode cX4_stall 142 = .ok (.iconst 3, 1) := by decide +kernel
theorem dX4_stall_143 : decode cX4_stall 143 = .ok (.iload 4, 2) := by decide +kernel
theorem dX4_stall_145 : decode cX4_stall 145 = .ok (.invokevirtual 93, 3) := by decide +kernel
theorem dX4_stall_148 : decode cX4_stall 148 = .ok (.pop, 1) := by decide +kernel
theorem dX4_stall_149 : decode cX4_stall 149 = .ok (.aload_n 0, 1) := by decide +kernel
theorem dX4_stall_150 : decode cX4_stall 150 = .ok (.getfield 10, 3) := by decide +kernel
theorem dX4_stall_153 : decode cX4_stall 153 = .ok (.iload 7, 2) := by decide +kernel
theorem dX4_stall_155 : decode cX4_stall 155 = .ok (.iconst 4, 1) := by decide +kernel
theorem dX4_stall_156 : decode cX4_stall 156 = .ok (.iload 5, 2) := by decide +kernel
theorem dX4_stall_158 : decode cX4_stall 158 = .ok (.invokevirtual 93, 3) := by decide +kernel
theorem dX4_stall_161 : decode cX4_stall 161 = .ok (.pop, 1) := by decide +kernel
theorem dX4_stall_162 : decode cX4_stall 162 = .ok (.aload_n 0, 1) := by decide +kernel
theorem dX4_stall_163 : decode cX4_stall 163 = .ok (.getfield 10, 3) := by decide +kernel
theorem dX4_stall_166 : decode cX4_stall 166 = .ok (.iload 7, 2) := by decide +kernel
theorem dX4_stall_168 : decode cX4_stall 168 = .ok (.iconst 5, 1) := by decide +kernel
theorem dX4_stall_169 : decode cX4_stall 169 = .ok (.iload 6, 2) := by decide +kernel
theorem dX4_stall_171 : decode cX4_stall 171 = .ok (.invokevirtual 93, 3) := by decide +kernel
theorem dX4_stall_174 : decode cX4_stall 174 = .ok (.pop, 1) := by decide +kernel
theorem dX4_stall_175 : decode cX4_stall 175 = .ok (.iload 7, 2) := by decide +kernel
theorem dX4_stall_177 : decode cX4_stall 177 = .ok (.ireturn, 1) := by decide +kernel
theorem dX4_change_0 : decode cX4_change 0 = .ok (.aload_n 0, 1) := by decide +kernel
theorem dX4_change_1 : decode cX4_change 1 = .ok (.getfield 21, 3) := by decide +kernel
theorem dX4_change_4 : decode cX4_change 4 = .ok (.getfield 42, 3) := by decide +kernel
theorem dX4_change_7 : decode cX4_change 7 = .ok (.ifCond .eq 6, 3) := by decide +kernel
theorem dX4_change_10 : decode cX4_change 10 = .ok (.bipush (-3), 2) := by decide +kernel
theorem dX4_change_12 : decode cX4_change 12 = .ok (.ireturn, 1) := by decide +kernel
theorem dX4_change_13 : decode cX4_change 13 = .ok (.aload_n 0, 1) := by decide +kernel
theorem dX4_change_14 : decode cX4_change 14 = .ok (.getfield 10, 3) := by decide +kernel
theorem dX4_change_17 : decode cX4_change 17 = .ok (.iload_n 1, 1) := by decide +kernel
theorem dX4_change_18 : decode cX4_change 18 = .ok (.invokevirtual 96, 3) := by decide +kernel
theorem dX4_change_21 : decode cX4_change 21 = .ok (.ifCond .eq 11, 3) := by decide +kernel
theorem dX4_change_24 : decode cX4_change 24 = .ok (.iload_n 2, 1) := by decide +kernel
theorem dX4_change_25 : decode cX4_change 25 = .ok (.iload_n 3, 1) := by decide +kernel
theorem dX4_change_26 : decode cX4_change 26 = .ok (.invokestatic 85, 3) := by decide +kernel
theorem dX4_change_29 : decode cX4_change 29 = .ok (.ifCond .ne 5, 3) := by decide +kernel
theorem dX4_change_32 : decode cX4_change 32 = .ok (.iconst (-1), 1) := by decide +kernel
theorem dX4_change_33 : decode cX4_change 33 = .ok (.ireturn, 1) := by decide +kernel
theorem dX4_change_34 : decode cX4_change 34 = .ok (.aload_n 0, 1) := by decide +kernel
theorem dX4_change_35 : decode cX4_change 35 = .ok (.getfield 10, 3) := by decide +kernel
theorem dX4_change_38 : decode cX4_change 38 = .ok (.iload_n 1, 1) := by decide +kernel
theorem dX4_change_39 : decode cX4_change 39 = .ok (.iload_n 2, 1) := by decide +kernel
theorem dX4_change_40 : decode cX4_change 40 = .ok (.iload_n 3, 1) := by decide +kernel
theorem dX4_change_41 : decode cX4_change 41 = .ok (.invokevirtual 93, 3) := by decide +kernel
theorem dX4_change_44 : decode cX4_change 44 = .ok (.ireturn, 1) := by decide +kernel
theorem dX4_layout_0 : decode cX4_layout 0 = .ok (.iload_n 1, 1) := by decide +kernel
theorem dX4_layout_1 : decode cX4_layout 1 = .ok (.invokestatic 99, 3) := by decide +kernel
theorem dX4_layout_4 : decode cX4_layout 4 = .ok (.ifCond .eq 14, 3) := by decide +kernel
theorem dX4_layout_7 : decode cX4_layout 7 = .ok (.aload_n 0, 1) := by decide +kernel
theorem dX4_layout_8 : decode cX4_layout 8 = .ok (.getfield 10, 3) := by decide +kernel
theorem dX4_layout_11 : decode cX4_layout 11 = .ok (.iload_n 2, 1) := by decide +kernel
theorem dX4_layout_12 : decode cX4_layout 12 = .ok (.invokevirtual 96, 3) := by decide +kernel
theorem dX4_layout_15 : decode cX4_layout 15 = .ok (.ifCond .ne 5, 3) := by decide +kernel
theorem dX4_layout_18 : decode cX4_layout 18 = .ok (.iconst (-1), 1) := by decide +kernel
theorem dX4_layout_19 : decode cX4_layout 19 = .ok (.ireturn, 1) := by decide +kernel
theorem dX4_layout_20 : decode cX4_layout 20 = .ok (.aload_n 0, 1) := by decide +kernel
theorem dX4_layout_21 : decode cX4_layout 21 = .ok (.getfield 28, 3) := by decide +kernel
theorem dX4_layout_24 : decode cX4_layout 24 = .ok (.iload_n 1, 1) := by decide +kernel
theorem dX4_layout_25 : decode cX4_layout 25 = .ok (.invokevirtual 102, 3) := by decide +kernel
theorem dX4_layout_28 : decode cX4_layout 28 = .ok (.aload_n 0, 1) := by decide +kernel
theorem dX4_layout_29 : decode cX4_layout 29 = .ok (.getfield 28, 3) := by decide +kernel
theorem dX4_layout_32 : decode cX4_layout 32 = .ok (.iload_n 2, 1) := by decide +kernel
theorem dX4_layout_33 : decode cX4_layout 33 = .ok (.invokevirtual 105, 3) := by decide +kernel
theorem dX4_layout_36 : decode cX4_layout 36 = .ok (.ireturn, 1) := by decide +kernel
theorem dX4_worth_0 : decode cX4_worth 0 = .ok (.iload_n 1, 1) := by decide +kernel
theorem dX4_worth_1 : decode cX4_worth 1 = .ok (.invokestatic 99, 3) := by decide +kernel
theorem dX4_worth_4 : decode cX4_worth 4 = .ok (.ifCond .ne 5, 3) := by decide +kernel
theorem dX4_worth_7 : decode cX4_worth 7 = .ok (.iconst (-1), 1) := by decide +kernel
theorem dX4_worth_8 : decode cX4_worth 8 = .ok (.ireturn, 1) := by decide +kernel
theorem dX4_worth_9 : decode cX4_worth 9 = .ok (.aload_n 0, 1) := by decide +kernel
theorem dX4_worth_10 : decode cX4_worth 10 = .ok (.getfield 28, 3) := by decide +kernel
theorem dX4_worth_13 : decode cX4_worth 13 = .ok (.iload_n 1, 1) := by decide +kernel
theorem dX4_worth_14 : decode cX4_worth 14 = .ok (.invokevirtual 102, 3) := by decide +kernel
theorem dX4_worth_17 : decode cX4_worth 17 = .ok (.aload_n 0, 1) := by decide +kernel
theorem dX4_worth_18 : decode cX4_worth 18 = .ok (.getfield 28, 3) := by decide +kernel
theorem dX4_worth_21 : decode cX4_worth 21 = .ok (.getfield 109, 3) := by decide +kernel
theorem dX4_worth_24 : decode cX4_worth 24 = .ok (.ireturn, 1) := by decide +kernel
theorem dX4_open_0 : decode cX4_open 0 = .ok (.aload_n 0, 1) := by decide +kernel
theorem dX4_open_1 : decode cX4_open 1 = .ok (.getfield 21, 3) := by decide +kernel
theorem dX4_open_4 : decode cX4_open 4 = .ok (.getfield 42, 3) := by decide +kernel
theorem dX4_open_7 : decode cX4_open 7 = .ok (.ifCond .eq 6, 3) := by decide +kernel
theorem dX4_open_10 : decode cX4_open 10 = .ok (.bipush (-3), 2) := by decide +kernel
theorem dX4_open_12 : decode cX4_open 12 = .ok (.ireturn, 1) := by decide +kernel
theorem dX4_open_13 : decode cX4_open 13 = .ok (.iload_n 1, 1) := by decide +kernel
theorem dX4_open_14 : decode cX4_open 14 = .ok (.invokestatic 99, 3) := by decide +kernel
theorem dX4_open_17 : decode cX4_open 17 = .ok (.ifCond .ne 5, 3) := by decide +kernel
theorem dX4_open_20 : decode cX4_open 20 = .ok (.iconst (-1), 1) := by decide +kernel
theorem dX4_open_21 : decode cX4_open 21 = .ok (.ireturn, 1) := by decide +kernel
theorem dX4_open_22 : decode cX4_open 22 = .ok (.aload_n 0, 1) := by decide +kernel
theorem dX4_open_23 : decode cX4_open 23 = .ok (.getfield 28, 3) := by decide +kernel
theorem dX4_open_26 : decode cX4_open 26 = .ok (.iload_n 1, 1) := by decide +kernel
theorem dX4_open_27 : decode cX4_open 27 = .ok (.invokevirtual 102, 3) := by decide +kernel
theorem dX4_open_30 : decode cX4_open 30 = .ok (.aload_n 0, 1) := by decide +kernel
theorem dX4_open_31 : decode cX4_open 31 = .ok (.getfield 21, 3) := by decide +kernel
theorem dX4_open_34 : decode cX4_open 34 = .ok (.invokevirtual 53, 3) := by decide +kernel
theorem dX4_open_37 : decode cX4_open 37 = .ok (.aload_n 0, 1) := by decide +kernel
theorem dX4_open_38 : decode cX4_open 38 = .ok (.getfield 21, 3) := by decide +kernel
theorem dX4_open_41 : decode cX4_open 41 = .ok (.aload_n 0, 1) := by decide +kernel
theorem dX4_open_42 : decode cX4_open 42 = .ok (.getfield 28, 3) := by decide +kernel
theorem dX4_open_45 : decode cX4_open 45 = .ok (.invokevirtual 112, 3) := by decide +kernel
theorem dX4_open_48 : decode cX4_open 48 = .ok (.aload_n 0, 1) := by decide +kernel
theorem dX4_open_49 : decode cX4_open 49 = .ok (.getfield 21, 3) := by decide +kernel
theorem dX4_open_52 : decode cX4_open 52 = .ok (.iconst 1, 1) := by decide +kernel
theorem dX4_open_53 : decode cX4_open 53 = .ok (.putfield 42, 3) := by decide +kernel
theorem dX4_open_56 : decode cX4_open 56 = .ok (.aload_n 0, 1) := by decide +kernel
theorem dX4_open_57 : decode cX4_open 57 = .ok (.getfield 21, 3) := by decide +kernel
theorem dX4_open_60 : decode cX4_open 60 = .ok (.invokevirtual 116, 3) := by decide +kernel
theorem dX4_open_63 : decode cX4_open 63 = .ok (.ireturn, 1) := by decide +kernel
theorem dX4_shut_0 : decode cX4_shut 0 = .ok (.aload_n 0, 1) := by decide +kernel
theorem dX4_shut_1 : decode cX4_shut 1 = .ok (.getfield 21, 3) := by decide +kernel
theorem dX4_shut_4 : decode cX4_shut 4 = .ok (.getfield 42, 3) := by decide +kernel
theorem dX4_shut_7 : decode cX4_shut 7 = .ok (.ifCond .ne 6, 3) := by decide +kernel
theorem dX4_shut_10 : decode cX4_shut 10 = .ok (.bipush (-3), 2) := by decide +kernel
theorem dX4_shut_12 : decode cX4_shut 12 = .ok (.ireturn, 1) := by decide +kernel
theorem dX4_shut_13 : decode cX4_shut 13 = .ok (.aload_n 0, 1) := by decide +kernel
theorem dX4_shut_14 : decode cX4_shut 14 = .ok (.getfield 21, 3) := by decide +kernel
theorem dX4_shut_17 : decode cX4_shut 17 = .ok (.iconst 0, 1) := by decide +kernel
theorem dX4_shut_18 : decode cX4_shut 18 = .ok (.putfield 42, 3) := by decide +kernel
theorem dX4_shut_21 : decode cX4_shut 21 = .ok (.aload_n 0, 1) := by decide +kernel
theorem dX4_shut_22 : decode cX4_shut 22 = .ok (.getfield 21, 3) := by decide +kernel
theorem dX4_shut_25 : decode cX4_shut 25 = .ok (.getfield 120, 3) := by decide +kernel
theorem dX4_shut_28 : decode cX4_shut 28 = .ok (.ireturn, 1) := by decide +kernel
theorem dX4_guest_0 : decode cX4_guest 0 = .ok (.aload_n 0, 1) := by decide +kernel
theorem dX4_guest_1 : decode cX4_guest 1 = .ok (.getfield 21, 3) := by decide +kernel
theorem dX4_guest_4 : decode cX4_guest 4 = .ok (.getfield 42, 3) := by decide +kernel
theorem dX4_guest_7 : decode cX4_guest 7 = .ok (.ifCond .ne 6, 3) := by decide +kernel
theorem dX4_guest_10 : decode cX4_guest 10 = .ok (.bipush (-3), 2) := by decide +kernel
theorem dX4_guest_12 : decode cX4_guest 12 = .ok (.ireturn, 1) := by decide +kernel
theorem dX4_guest_13 : decode cX4_guest 13 = .ok (.iload_n 1, 1) := by decide +kernel
theorem dX4_guest_14 : decode cX4_guest 14 = .ok (.iconst 0, 1) := by decide +kernel
theorem dX4_guest_15 : decode cX4_guest 15 = .ok (.iconst 5, 1) := by decide +kernel
theorem dX4_guest_16 : decode cX4_guest 16 = .ok (.invokestatic 45, 3) := by decide +kernel
theorem dX4_guest_19 : decode cX4_guest 19 = .ok (.ifCond .eq 13, 3) := by decide +kernel
theorem dX4_guest_22 : decode cX4_guest 22 = .ok (.iload_n 2, 1) := by decide +kernel
theorem dX4_guest_23 : decode cX4_guest 23 = .ok (.iconst 1, 1) := by decide +kernel
theorem dX4_guest_24 : decode cX4_guest 24 = .ok (.bipush 50, 2) := by decide +kernel
theorem dX4_guest_26 : decode cX4_guest 26 = .ok (.invokestatic 45, 3) := by decide +kernel
theorem dX4_guest_29 : decode cX4_guest 29 = .ok (.ifCond .ne 5, 3) := by decide +kernel
theorem dX4_guest_32 : decode cX4_guest 32 = .ok (.iconst (-1), 1) := by decide +kernel
theorem dX4_guest_33 : decode cX4_guest 33 = .ok (.ireturn, 1) := by decide +kernel
theorem dX4_guest_34 : decode cX4_guest 34 = .ok (.aload_n 0, 1) := by decide +kernel
theorem dX4_guest_35 : decode cX4_guest 35 = .ok (.getfield 21, 3) := by decide +kernel
theorem dX4_guest_38 : decode cX4_guest 38 = .ok (.getfield 123, 3) := by decide +kernel
theorem dX4_guest_41 : decode cX4_guest 41 = .ok (.getfield 127, 3) := by decide +kernel
theorem dX4_guest_44 : decode cX4_guest 44 = .ok (.bipush 20, 2) := by decide +kernel
theorem dX4_guest_46 : decode cX4_guest 46 = .ok (.if_icmp .lt 6, 3) := by decide +kernel
theorem dX4_guest_49 : decode cX4_guest 49 = .ok (.bipush (-2), 2) := by decide +kernel
theorem dX4_guest_51 : decode cX4_guest 51 = .ok (.ireturn, 1) := by decide +kernel
theorem dX4_guest_52 : decode cX4_guest 52 = .ok (.aload_n 0, 1) := by decide +kernel
theorem dX4_guest_53 : decode cX4_guest 53 = .ok (.getfield 21, 3) := by decide +kernel
theorem dX4_guest_56 : decode cX4_guest 56 = .ok (.getfield 123, 3) := by decide +kernel
theorem dX4_guest_59 : decode cX4_guest 59 = .ok (.iload_n 1, 1) := by decide +kernel
theorem dX4_guest_60 : decode cX4_guest 60 = .ok (.iload_n 2, 1) := by decide +kernel
theorem dX4_guest_61 : decode cX4_guest 61 = .ok (.invokevirtual 132, 3) := by decide +kernel
theorem dX4_guest_64 : decode cX4_guest 64 = .ok (.ireturn, 1) := by decide +kernel
theorem dX4_go_0 : decode cX4_go 0 = .ok (.aload_n 0, 1) := by decide +kernel
theorem dX4_go_1 : decode cX4_go 1 = .ok (.getfield 21, 3) := by decide +kernel
theorem dX4_go_4 : decode cX4_go 4 = .ok (.getfield 42, 3) := by decide +kernel
theorem dX4_go_7 : decode cX4_go 7 = .ok (.ifCond .ne 6, 3) := by decide +kernel
theorem dX4_go_10 : decode cX4_go 10 = .ok (.bipush (-3), 2) := by decide +kernel
theorem dX4_go_12 : decode cX4_go 12 = .ok (.ireturn, 1) := by decide +kernel
theorem dX4_go_13 : decode cX4_go 13 = .ok (.iload_n 1, 1) := by decide +kernel
theorem dX4_go_14 : decode cX4_go 14 = .ok (.iconst 1, 1) := by decide +kernel
theorem dX4_go_15 : decode cX4_go 15 = .ok (.bipush 50, 2) := by decide +kernel
theorem dX4_go_17 : decode cX4_go 17 = .ok (.invokestatic 45, 3) := by decide +kernel
theorem dX4_go_20 : decode cX4_go 20 = .ok (.ifCond .ne 5, 3) := by decide +kernel
theorem dX4_go_23 : decode cX4_go 23 = .ok (.iconst (-1), 1) := by decide +kernel
theorem dX4_go_24 : decode cX4_go 24 = .ok (.ireturn, 1) := by decide +kernel
theorem dX4_go_25 : decode cX4_go 25 = .ok (.iconst 0, 1) := by decide +kernel
theorem dX4_go_26 : decode cX4_go 26 = .ok (.istore_n 2, 1) := by decide +kernel
theorem dX4_go_27 : decode cX4_go 27 = .ok (.iconst 0, 1) := by decide +kernel
theorem dX4_go_28 : decode cX4_go 28 = .ok (.istore_n 3, 1) := by decide +kernel
theorem dX4_go_29 : decode cX4_go 29 = .ok (.iload_n 3, 1) := by decide +kernel
theorem dX4_go_30 : decode cX4_go 30 = .ok (.iload_n 1, 1) := by decide +kernel
theorem dX4_go_31 : decode cX4_go 31 = .ok (.if_icmp .ge 19, 3) := by decide +kernel
theorem dX4_go_34 : decode cX4_go 34 = .ok (.iload_n 2, 1) := by decide +kernel
theorem dX4_go_35 : decode cX4_go 35 = .ok (.aload_n 0, 1) := by decide +kernel
theorem dX4_go_36 : decode cX4_go 36 = .ok (.getfield 21, 3) := by decide +kernel
theorem dX4_go_39 : decode cX4_go 39 = .ok (.invokevirtual 135, 3) := by decide +kernel
theorem dX4_go_42 : decode cX4_go 42 = .ok (.iadd, 1) := by decide +kernel
theorem dX4_go_43 : decode cX4_go 43 = .ok (.istore_n 2, 1) := by decide +kernel
theorem dX4_go_44 : decode cX4_go 44 = .ok (.iinc 3 1, 3) := by decide +kernel
theorem dX4_go_47 : decode cX4_go 47 = .ok (.goto (-18), 3) := by decide +kernel
theorem dX4_go_50 : decode cX4_go 50 = .ok (.iload_n 2, 1) := by decide +kernel
theorem dX4_go_51 : decode cX4_go 51 = .ok (.ireturn, 1) := by decide +kernel
theorem dX4_plug_0 : decode cX4_plug 0 = .ok (.aload_n 0, 1) := by decide +kernel
theorem dX4_plug_1 : decode cX4_plug 1 = .ok (.getfield 21, 3) := by decide +kernel
theorem dX4_plug_4 : decode cX4_plug 4 = .ok (.getfield 42, 3) := by decide +kernel
theorem dX4_plug_7 : decode cX4_plug 7 = .ok (.ifCond .ne 6, 3) := by decide +kernel
theorem dX4_plug_10 : decode cX4_plug 10 = .ok (.bipush (-3), 2) := by decide +kernel
theorem dX4_plug_12 : decode cX4_plug 12 = .ok (.ireturn, 1) := by decide +kernel
theorem dX4_plug_13 : decode cX4_plug 13 = .ok (.iload_n 1, 1) := by decide +kernel
theorem dX4_plug_14 : decode cX4_plug 14 = .ok (.invokestatic 68, 3) := by decide +kernel
theorem dX4_plug_17 : decode cX4_plug 17 = .ok (.ifCond .eq 13, 3) := by decide +kernel
theorem dX4_plug_20 : decode cX4_plug 20 = .ok (.iload_n 2, 1) := by decide +kernel
theorem dX4_plug_21 : decode cX4_plug 21 = .ok (.iconst 0, 1) := by decide +kernel
theorem dX4_plug_22 : decode cX4_plug 22 = .ok (.bipush 99, 2) := by decide +kernel
theorem dX4_plug_24 : decode cX4_plug 24 = .ok (.invokestatic 45, 3) := by decide +kernel
theorem dX4_plug_27 : decode cX4_plug 27 = .ok (.ifCond .ne 5, 3) := by decide +kernel
theorem dX4_plug_30 : decode cX4_plug 30 = .ok (.iconst (-1), 1) := by decide +kernel
theorem dX4_plug_31 : decode cX4_plug 31 = .ok (.ireturn, 1) := by decide +kernel
theorem dX4_plug_32 : decode cX4_plug 32 = .ok (.aload_n 0, 1) := by decide +kernel
theorem dX4_plug_33 : decode cX4_plug 33 = .ok (.getfield 21, 3) := by decide +kernel
theorem dX4_plug_36 : decode cX4_plug 36 = .ok (.getfield 138, 3) := by decide +kernel
theorem dX4_plug_39 : decode cX4_plug 39 = .ok (.iload_n 1, 1) := by decide +kernel
theorem dX4_plug_40 : decode cX4_plug 40 = .ok (.iaload, 1) := by decide +kernel
theorem dX4_plug_41 : decode cX4_plug 41 = .ok (.iconst 1, 1) := by decide +kernel
theorem dX4_plug_42 : decode cX4_plug 42 = .ok (.if_icmp .ne 6, 3) := by decide +kernel
theorem dX4_plug_45 : decode cX4_plug 45 = .ok (.bipush (-5), 2) := by decide +kernel
theorem dX4_plug_47 : decode cX4_plug 47 = .ok (.ireturn, 1) := by decide +kernel
theorem dX4_plug_48 : decode cX4_plug 48 = .ok (.aload_n 0, 1) := by decide +kernel
theorem dX4_plug_49 : decode cX4_plug 49 = .ok (.getfield 21, 3) := by decide +kernel
theorem dX4_plug_52 : decode cX4_plug 52 = .ok (.getfield 141, 3) := by decide +kernel
theorem dX4_plug_55 : decode cX4_plug 55 = .ok (.iload_n 1, 1) := by decide +kernel
theorem dX4_plug_56 : decode cX4_plug 56 = .ok (.iload_n 2, 1) := by decide +kernel
theorem dX4_plug_57 : decode cX4_plug 57 = .ok (.iastore, 1) := by decide +kernel
theorem dX4_plug_58 : decode cX4_plug 58 = .ok (.aload_n 0, 1) := by decide +kernel
theorem dX4_plug_59 : decode cX4_plug 59 = .ok (.getfield 21, 3) := by decide +kernel
theorem dX4_plug_62 : decode cX4_plug 62 = .ok (.getfield 138, 3) := by decide +kernel
theorem dX4_plug_65 : decode cX4_plug 65 = .ok (.iload_n 1, 1) := by decide +kernel
theorem dX4_plug_66 : decode cX4_plug 66 = .ok (.aload_n 0, 1) := by decide +kernel
theorem dX4_plug_67 : decode cX4_plug 67 = .ok (.getfield 21, 3) := by decide +kernel
theorem dX4_plug_70 : decode cX4_plug 70 = .ok (.iload_n 1, 1) := by decide +kernel
theorem dX4_plug_71 : decode cX4_plug 71 = .ok (.invokevirtual 144, 3) := by decide +kernel
theorem dX4_plug_74 : decode cX4_plug 74 = .ok (.ifCond .eq 7, 3) := by decide +kernel
theorem dX4_plug_77 : decode cX4_plug 77 = .ok (.iconst 1, 1) := by decide +kernel
theorem dX4_plug_78 : decode cX4_plug 78 = .ok (.goto 4, 3) := by decide +kernel
theorem dX4_plug_81 : decode cX4_plug 81 = .ok (.iconst 0, 1) := by decide +kernel
theorem dX4_plug_82 : decode cX4_plug 82 = .ok (.iastore, 1) := by decide +kernel
theorem dX4_plug_83 : decode cX4_plug 83 = .ok (.aload_n 0, 1) := by decide +kernel
theorem dX4_plug_84 : decode cX4_plug 84 = .ok (.getfield 21, 3) := by decide +kernel
theorem dX4_plug_87 : decode cX4_plug 87 = .ok (.getfield 138, 3) := by decide +kernel
theorem dX4_plug_90 : decode cX4_plug 90 = .ok (.iload_n 1, 1) := by decide +kernel
theorem dX4_plug_91 : decode cX4_plug 91 = .ok (.iaload, 1) := by decide +kernel
theorem dX4_plug_92 : decode cX4_plug 92 = .ok (.ireturn, 1) := by decide +kernel
theorem dX4_reset_0 : decode cX4_reset 0 = .ok (.aload_n 0, 1) := by decide +kernel
theorem dX4_reset_1 : decode cX4_reset 1 = .ok (.getfield 21, 3) := by decide +kernel
theorem dX4_reset_4 : decode cX4_reset 4 = .ok (.getfield 42, 3) := by decide +kernel
theorem dX4_reset_7 : decode cX4_reset 7 = .ok (.ifCond .ne 6, 3) := by decide +kernel
theorem dX4_reset_10 : decode cX4_reset 10 = .ok (.bipush (-3), 2) := by decide +kernel
theorem dX4_reset_12 : decode cX4_reset 12 = .ok (.ireturn, 1) := by decide +kernel
theorem dX4_reset_13 : decode cX4_reset 13 = .ok (.iload_n 1, 1) := by decide +kernel
theorem dX4_reset_14 : decode cX4_reset 14 = .ok (.invokestatic 68, 3) := by decide +kernel
theorem dX4_reset_17 : decode cX4_reset 17 = .ok (.ifCond .ne 5, 3) := by decide +kernel
theorem dX4_reset_20 : decode cX4_reset 20 = .ok (.iconst (-1), 1) := by decide +kernel
theorem dX4_reset_21 : decode cX4_reset 21 = .ok (.ireturn, 1) := by decide +kernel
theorem dX4_reset_22 : decode cX4_reset 22 = .ok (.aload_n 0, 1) := by decide +kernel
theorem dX4_reset_23 : decode cX4_reset 23 = .ok (.getfield 21, 3) := by decide +kernel
theorem dX4_reset_26 : decode cX4_reset 26 = .ok (.getfield 138, 3) := by decide +kernel
theorem dX4_reset_29 : decode cX4_reset 29 = .ok (.iload_n 1, 1) := by decide +kernel
theorem dX4_reset_30 : decode cX4_reset 30 = .ok (.iaload, 1) := by decide +kernel
theorem dX4_reset_31 : decode cX4_reset 31 = .ok (.ifCond .ne 6, 3) := by decide +kernel
theorem dX4_reset_34 : decode cX4_reset 34 = .ok (.bipush (-4), 2) := by decide +kernel
theorem dX4_reset_36 : decode cX4_reset 36 = .ok (.ireturn, 1) := by decide +kernel
theorem dX4_reset_37 : decode cX4_reset 37 = .ok (.aload_n 0, 1) := by decide +kernel
theorem dX4_reset_38 : decode cX4_reset 38 = .ok (.getfield 21, 3) := by decide +kernel
theorem dX4_reset_41 : decode cX4_reset 41 = .ok (.iload_n 1, 1) := by decide +kernel
theorem dX4_reset_42 : decode cX4_reset 42 = .ok (.invokevirtual 144, 3) := by decide +kernel
theorem dX4_reset_45 : decode cX4_reset 45 = .ok (.ifCond .eq 6, 3) := by decide +kernel
theorem dX4_reset_48 : decode cX4_reset 48 = .ok (.bipush (-5), 2) := by decide +kernel
theorem dX4_reset_50 : decode cX4_reset 50 = .ok (.ireturn, 1) := by decide +kernel
theorem dX4_reset_51 : decode cX4_reset 51 = .ok (.aload_n 0, 1) := by decide +kernel
theorem dX4_reset_52 : decode cX4_reset 52 = .ok (.getfield 21, 3) := by decide +kernel
theorem dX4_reset_55 : decode cX4_reset 55 = .ok (.getfield 138, 3) := by decide +kernel
theorem dX4_reset_58 : decode cX4_reset 58 = .ok (.iload_n 1, 1) := by decide +kernel
theorem dX4_reset_59 : decode cX4_reset 59 = .ok (.iconst 0, 1) := by decide +kernel
theorem dX4_reset_60 : decode cX4_reset 60 = .ok (.iastore, 1) := by decide +kernel
theorem dX4_reset_61 : decode cX4_reset 61 = .ok (.iconst 1, 1) := by decide +kernel
theorem dX4_reset_62 : decode cX4_reset 62 = .ok (.ireturn, 1) := by decide +kernel
theorem dX4_pull_0 : decode cX4_pull 0 = .ok (.aload_n 0, 1) := by decide +kernel
theorem dX4_pull_1 : decode cX4_pull 1 = .ok (.getfield 21, 3) := by decide +kernel
theorem dX4_pull_4 : decode cX4_pull 4 = .ok (.getfield 42, 3) := by decide +kernel
theorem dX4_pull_7 : decode cX4_pull 7 = .ok (.ifCond .ne 6, 3) := by decide +kernel
theorem dX4_pull_10 : decode cX4_pull 10 = .ok (.bipush (-3), 2) := by decide +kernel
theorem dX4_pull_12 : decode cX4_pull 12 = .ok (.ireturn, 1) := by decide +kernel
theorem dX4_pull_13 : decode cX4_pull 13 = .ok (.iload_n 1, 1) := by decide +kernel
theorem dX4_pull_14 : decode cX4_pull 14 = .ok (.invokestatic 68, 3) := by decide +kernel
theorem dX4_pull_17 : decode cX4_pull 17 = .ok (.ifCond .ne 5, 3) := by decide +kernel
theorem dX4_pull_20 : decode cX4_pull 20 = .ok (.iconst (-1), 1) := by decide +kernel
theorem dX4_pull_21 : decode cX4_pull 21 = .ok (.ireturn, 1) := by decide +kernel
theorem dX4_pull_22 : decode cX4_pull 22 = .ok (.aload_n 0, 1) := by decide +kernel
theorem dX4_pull_23 : decode cX4_pull 23 = .ok (.getfield 21, 3) := by decide +kernel
theorem dX4_pull_26 : decode cX4_pull 26 = .ok (.getfield 141, 3) := by decide +kernel
theorem dX4_pull_29 : decode cX4_pull 29 = .ok (.iload_n 1, 1) := by decide +kernel
theorem dX4_pull_30 : decode cX4_pull 30 = .ok (.iaload, 1) := by decide +kernel
theorem dX4_pull_31 : decode cX4_pull 31 = .ok (.istore_n 2, 1) := by decide +kernel
theorem dX4_pull_32 : decode cX4_pull 32 = .ok (.aload_n 0, 1) := by decide +kernel
theorem dX4_pull_33 : decode cX4_pull 33 = .ok (.getfield 21, 3) := by decide +kernel
theorem dX4_pull_36 : decode cX4_pull 36 = .ok (.getfield 141, 3) := by decide +kernel
theorem dX4_pull_39 : decode cX4_pull 39 = .ok (.iload_n 1, 1) := by decide +kernel
theorem dX4_pull_40 : decode cX4_pull 40 = .ok (.iconst 0, 1) := by decide +kernel
theorem dX4_pull_41 : decode cX4_pull 41 = .ok (.iastore, 1) := by decide +kernel
theorem dX4_pull_42 : decode cX4_pull 42 = .ok (.iload_n 2, 1) := by decide +kernel
theorem dX4_pull_43 : decode cX4_pull 43 = .ok (.ireturn, 1) := by decide +kernel
theorem dX4_of_0 : decode cX4_of 0 = .ok (.aload_n 0, 1) := by decide +kernel
theorem dX4_of_1 : decode cX4_of 1 = .ok (.getfield 10, 3) := by decide +kernel
theorem dX4_of_4 : decode cX4_of 4 = .ok (.iload_n 1, 1) := by decide +kernel
theorem dX4_of_5 : decode cX4_of 5 = .ok (.invokevirtual 96, 3) := by decide +kernel
theorem dX4_of_8 : decode cX4_of 8 = .ok (.ifCond .ne 5, 3) := by decide +kernel
theorem dX4_of_11 : decode cX4_of 11 = .ok (.iconst (-1), 1) := by decide +kernel
theorem dX4_of_12 : decode cX4_of 12 = .ok (.ireturn, 1) := by decide +kernel
theorem dX4_of_13 : decode cX4_of 13 = .ok (.iload_n 2, 1) := by decide +kernel
theorem dX4_of_14 : decode cX4_of 14 = .ok (.iconst 0, 1) := by decide +kernel
theorem dX4_of_15 : decode cX4_of 15 = .ok (.iconst 5, 1) := by decide +kernel
theorem dX4_of_16 : decode cX4_of 16 = .ok (.invokestatic 45, 3) := by decide +kernel
theorem dX4_of_19 : decode cX4_of 19 = .ok (.ifCond .eq 13, 3) := by decide +kernel
theorem dX4_of_22 : decode cX4_of 22 = .ok (.aload_n 0, 1) := by decide +kernel
theorem dX4_of_23 : decode cX4_of 23 = .ok (.getfield 10, 3) := by decide +kernel
theorem dX4_of_26 : decode cX4_of 26 = .ok (.iload_n 1, 1) := by decide +kernel
theorem dX4_of_27 : decode cX4_of 27 = .ok (.iload_n 2, 1) := by decide +kernel
theorem dX4_of_28 : decode cX4_of 28 = .ok (.invokevirtual 147, 3) := by decide +kernel
theorem dX4_of_31 : decode cX4_of 31 = .ok (.ireturn, 1) := by decide +kernel
theorem dX4_of_32 : decode cX4_of 32 = .ok (.aload_n 0, 1) := by decide +kernel
theorem dX4_of_33 : decode cX4_of 33 = .ok (.getfield 21, 3) := by decide +kernel
theorem dX4_of_36 : decode cX4_of 36 = .ok (.iload_n 1, 1) := by decide +kernel
theorem dX4_of_37 : decode cX4_of 37 = .ok (.iload_n 2, 1) := by decide +kernel
theorem dX4_of_38 : decode cX4_of 38 = .ok (.invokevirtual 150, 3) := by decide +kernel
theorem dX4_of_41 : decode cX4_of 41 = .ok (.ireturn, 1) := by decide +kernel
theorem dX4_guestOf_0 : decode cX4_guestOf 0 = .ok (.iload_n 1, 1) := by decide +kernel
theorem dX4_guestOf_1 : decode cX4_guestOf 1 = .ok (.iconst 0, 1) := by decide +kernel
theorem dX4_guestOf_2 : decode cX4_guestOf 2 = .ok (.aload_n 0, 1) := by decide +kernel
theorem dX4_guestOf_3 : decode cX4_guestOf 3 = .ok (.getfield 21, 3) := by decide +kernel
theorem dX4_guestOf_6 : decode cX4_guestOf 6 = .ok (.getfield 123, 3) := by decide +kernel
theorem dX4_guestOf_9 : decode cX4_guestOf 9 = .ok (.getfield 127, 3) := by decide +kernel
theorem dX4_guestOf_12 : decode cX4_guestOf 12 = .ok (.iconst 1, 1) := by decide +kernel
theorem dX4_guestOf_13 : decode cX4_guestOf 13 = .ok (.isub, 1) := by decide +kernel
theorem dX4_guestOf_14 : decode cX4_guestOf 14 = .ok (.invokestatic 45, 3) := by decide +kernel
theorem dX4_guestOf_17 : decode cX4_guestOf 17 = .ok (.ifCond .ne 5, 3) := by decide +kernel
theorem dX4_guestOf_20 : decode cX4_guestOf 20 = .ok (.iconst (-1), 1) := by decide +kernel
theorem dX4_guestOf_21 : decode cX4_guestOf 21 = .ok (.ireturn, 1) := by decide +kernel
theorem dX4_guestOf_22 : decode cX4_guestOf 22 = .ok (.aload_n 0, 1) := by decide +kernel
theorem dX4_guestOf_23 : decode cX4_guestOf 23 = .ok (.getfield 21, 3) := by decide +kernel
theorem dX4_guestOf_26 : decode cX4_guestOf 26 = .ok (.getfield 123, 3) := by decide +kernel
theorem dX4_guestOf_29 : decode cX4_guestOf 29 = .ok (.iload_n 1, 1) := by decide +kernel
theorem dX4_guestOf_30 : decode cX4_guestOf 30 = .ok (.iload_n 2, 1) := by decide +kernel
theorem dX4_guestOf_31 : decode cX4_guestOf 31 = .ok (.invokevirtual 153, 3) := by decide +kernel
theorem dX4_guestOf_34 : decode cX4_guestOf 34 = .ok (.ireturn, 1) := by decide +kernel
theorem dX4_suspects_0 : decode cX4_suspects 0 = .ok (.iload_n 1, 1) := by decide +kernel
theorem dX4_suspects_1 : decode cX4_suspects 1 = .ok (.iconst 0, 1) := by decide +kernel
theorem dX4_suspects_2 : decode cX4_suspects 2 = .ok (.iconst 5, 1) := by decide +kernel
theorem dX4_suspects_3 : decode cX4_suspects 3 = .ok (.invokestatic 45, 3) := by decide +kernel
theorem dX4_suspects_6 : decode cX4_suspects 6 = .ok (.ifCond .eq 12, 3) := by decide +kernel
theorem dX4_suspects_9 : decode cX4_suspects 9 = .ok (.iload_n 2, 1) := by decide +kernel
theorem dX4_suspects_10 : decode cX4_suspects 10 = .ok (.ifCond .lt 8, 3) := by decide +kernel
theorem dX4_suspects_13 : decode cX4_suspects 13 = .ok (.iload_n 2, 1) := by decide +kernel
theorem dX4_suspects_14 : decode cX4_suspects 14 = .ok (.iload_n 3, 1) := by decide +kernel
theorem dX4_suspects_15 : decode cX4_suspects 15 = .ok (.if_icmp .le 5, 3) := by decide +kernel
theorem dX4_suspects_18 : decode cX4_suspects 18 = .ok (.iconst (-1), 1) := by decide +kernel
theorem dX4_suspects_19 : decode cX4_suspects 19 = .ok (.ireturn, 1) := by decide +kernel
theorem dX4_suspects_20 : decode cX4_suspects 20 = .ok (.aload_n 0, 1) := by decide +kernel
theorem dX4_suspects_21 : decode cX4_suspects 21 = .ok (.getfield 21, 3) := by decide +kernel
theorem dX4_suspects_24 : decode cX4_suspects 24 = .ok (.getfield 123, 3) := by decide +kernel
theorem dX4_suspects_27 : decode cX4_suspects 27 = .ok (.iload_n 1, 1) := by decide +kernel
theorem dX4_suspects_28 : decode cX4_suspects 28 = .ok (.iload_n 2, 1) := by decide +kernel
theorem dX4_suspects_29 : decode cX4_suspects 29 = .ok (.iload_n 3, 1) := by decide +kernel
theorem dX4_suspects_30 : decode cX4_suspects 30 = .ok (.invokevirtual 156, 3) := by decide +kernel
theorem dX4_suspects_33 : decode cX4_suspects 33 = .ok (.ireturn, 1) := by decide +kernel
theorem dX4_lineOf_0 : decode cX4_lineOf 0 = .ok (.iload_n 1, 1) := by decide +kernel
theorem dX4_lineOf_1 : decode cX4_lineOf 1 = .ok (.invokestatic 68, 3) := by decide +kernel
theorem dX4_lineOf_4 : decode cX4_lineOf 4 = .ok (.ifCond .ne 5, 3) := by decide +kernel
theorem dX4_lineOf_7 : decode cX4_lineOf 7 = .ok (.iconst (-1), 1) := by decide +kernel
theorem dX4_lineOf_8 : decode cX4_lineOf 8 = .ok (.ireturn, 1) := by decide +kernel
theorem dX4_lineOf_9 : decode cX4_lineOf 9 = .ok (.iload_n 2, 1) := by decide +kernel
theorem dX4_lineOf_10 : decode cX4_lineOf 10 = .ok (.tableswitch 68 0 3 #[30, 39, 48, 58], 30) := by decide +kernel
theorem dX4_lineOf_40 : decode cX4_lineOf 40 = .ok (.aload_n 0, 1) := by decide +kernel
theorem dX4_lineOf_41 : decode cX4_lineOf 41 = .ok (.getfield 10, 3) := by decide +kernel
theorem dX4_lineOf_44 : decode cX4_lineOf 44 = .ok (.iload_n 1, 1) := by decide +kernel
theorem dX4_lineOf_45 : decode cX4_lineOf 45 = .ok (.invokevirtual 159, 3) := by decide +kernel
theorem dX4_lineOf_48 : decode cX4_lineOf 48 = .ok (.ireturn, 1) := by decide +kernel
theorem dX4_lineOf_49 : decode cX4_lineOf 49 = .ok (.aload_n 0, 1) := by decide +kernel
theorem dX4_lineOf_50 : decode cX4_lineOf 50 = .ok (.getfield 21, 3) := by decide +kernel
theorem dX4_lineOf_53 : decode cX4_lineOf 53 = .ok (.iload_n 1, 1) := by decide +kernel
theorem dX4_lineOf_54 : decode cX4_lineOf 54 = .ok (.invokevirtual 162, 3) := by decide +kernel
theorem dX4_lineOf_57 : decode cX4_lineOf 57 = .ok (.ireturn, 1) := by decide +kernel
theorem dX4_lineOf_58 : decode cX4_lineOf 58 = .ok (.aload_n 0, 1) := by decide +kernel
theorem dX4_lineOf_59 : decode cX4_lineOf 59 = .ok (.getfield 21, 3) := by decide +kernel
theorem dX4_lineOf_62 : decode cX4_lineOf 62 = .ok (.getfield 141, 3) := by decide +kernel
theorem dX4_lineOf_65 : decode cX4_lineOf 65 = .ok (.iload_n 1, 1) := by decide +kernel
theorem dX4_lineOf_66 : decode cX4_lineOf 66 = .ok (.iaload, 1) := by decide +kernel
theorem dX4_lineOf_67 : decode cX4_lineOf 67 = .ok (.ireturn, 1) := by decide +kernel
theorem dX4_lineOf_68 : decode cX4_lineOf 68 = .ok (.aload_n 0, 1) := by decide +kernel
theorem dX4_lineOf_69 : decode cX4_lineOf 69 = .ok (.getfield 21, 3) := by decide +kernel
theorem dX4_lineOf_72 : decode cX4_lineOf 72 = .ok (.getfield 138, 3) := by decide +kernel
theorem dX4_lineOf_75 : decode cX4_lineOf 75 = .ok (.iload_n 1, 1) := by decide +kernel
theorem dX4_lineOf_76 : decode cX4_lineOf 76 = .ok (.iaload, 1) := by decide +kernel
theorem dX4_lineOf_77 : decode cX4_lineOf 77 = .ok (.ireturn, 1) := by decide +kernel
theorem dX4_lineOf_78 : decode cX4_lineOf 78 = .ok (.iconst (-1), 1) := by decide +kernel
theorem dX4_lineOf_79 : decode cX4_lineOf 79 = .ok (.ireturn, 1) := by decide +kernel
theorem dX4_many_0 : decode cX4_many 0 = .ok (.iload_n 1, 1) := by decide +kernel
theorem dX4_many_1 : decode cX4_many 1 = .ok (.tableswitch 182 0 11 #[63, 71, 79, 87, 103, 111, 122, 134, 146, 158, 166, 174], 63) := by decide +kernel
theorem dX4_many_64 : decode cX4_many 64 = .ok (.aload_n 0, 1) := by decide +kernel
theorem dX4_many_65 : decode cX4_many 65 = .ok (.getfield 10, 3) := by decide +kernel
theorem dX4_many_68 : decode cX4_many 68 = .ok (.getfield 165, 3) := by decide +kernel
theorem dX4_many_71 : decode cX4_many 71 = .ok (.ireturn, 1) := by decide +kernel
theorem dX4_many_72 : decode cX4_many 72 = .ok (.aload_n 0, 1) := by decide +kernel
theorem dX4_many_73 : decode cX4_many 73 = .ok (.getfield 10, 3) := by decide +kernel
theorem dX4_many_76 : decode cX4_many 76 = .ok (.getfield 89, 3) := by decide +kernel
theorem dX4_many_79 : decode cX4_many 79 = .ok (.ireturn, 1) := by decide +kernel
theorem dX4_many_80 : decode cX4_many 80 = .ok (.aload_n 0, 1) := by decide +kernel
theorem dX4_many_81 : decode cX4_many 81 = .ok (.getfield 21, 3) := by decide +kernel
theorem dX4_many_84 : decode cX4_many 84 = .ok (.invokevirtual 116, 3) := by decide +kernel
theorem dX4_many_87 : decode cX4_many 87 = .ok (.ireturn, 1) := by decide +kernel
theorem dX4_many_88 : decode cX4_many 88 = .ok (.aload_n 0, 1) := by decide +kernel
theorem dX4_many_89 : decode cX4_many 89 = .ok (.getfield 21, 3) := by decide +kernel
theorem dX4_many_92 : decode cX4_many 92 = .ok (.getfield 42, 3) := by decide +kernel
theorem dX4_many_95 : decode cX4_many 95 = .ok (.ifCond .eq 7, 3) := by decide +kernel
theorem dX4_many_98 : decode cX4_many 98 = .ok (.iconst 1, 1) := by decide +kernel
theorem dX4_many_99 : decode cX4_many 99 = .ok (.goto 4, 3) := by decide +kernel
theorem dX4_many_102 : decode cX4_many 102 = .ok (.iconst 0, 1) := by decide +kernel
theorem dX4_many_103 : decode cX4_many 103 = .ok (.ireturn, 1) := by decide +kernel
theorem dX4_many_104 : decode cX4_many 104 = .ok (.aload_n 0, 1) := by decide +kernel
theorem dX4_many_105 : decode cX4_many 105 = .ok (.getfield 21, 3) := by decide +kernel
theorem dX4_many_108 : decode cX4_many 108 = .ok (.getfield 120, 3) := by decide +kernel
theorem dX4_many_111 : decode cX4_many 111 = .ok (.ireturn, 1) := by decide +kernel
theorem dX4_many_112 : decode cX4_many 112 = .ok (.aload_n 0, 1) := by decide +kernel
theorem dX4_many_113 : decode cX4_many 113 = .ok (.getfield 21, 3) := by decide +kernel
theorem dX4_many_116 : decode cX4_many 116 = .ok (.getfield 123, 3) := by decide +kernel
theorem dX4_many_119 : decode cX4_many 119 = .ok (.getfield 127, 3) := by decide +kernel
theorem dX4_many_122 : decode cX4_many 122 = .ok (.ireturn, 1) := by decide +kernel
theorem dX4_many_123 : decode cX4_many 123 = .ok (.aload_n 0, 1) := by decide +kernel
theorem dX4_many_124 : decode cX4_many 124 = .ok (.getfield 21, 3) := by decide +kernel
theorem dX4_many_127 : decode cX4_many 127 = .ok (.getfield 123, 3) := by decide +kernel
theorem dX4_many_130 : decode cX4_many 130 = .ok (.iconst 3, 1) := by decide +kernel
theorem dX4_many_131 : decode cX4_many 131 = .ok (.invokevirtual 168, 3) := by decide +kernel
theorem dX4_many_134 : decode cX4_many 134 = .ok (.ireturn, 1) := by decide +kernel
theorem dX4_many_135 : decode cX4_many 135 = .ok (.aload_n 0, 1) := by decide +kernel
theorem dX4_many_136 : decode cX4_many 136 = .ok (.getfield 21, 3) := by decide +kernel
theorem dX4_many_139 : decode cX4_many 139 = .ok (.getfield 123, 3) := by decide +kernel
theorem dX4_many_142 : decode cX4_many 142 = .ok (.iconst 4, 1) := by decide +kernel
theorem dX4_many_143 : decode cX4_many 143 = .ok (.invokevirtual 168, 3) := by decide +kernel
theorem dX4_many_146 : decode cX4_many 146 = .ok (.ireturn, 1) := by decide +kernel
theorem dX4_many_147 : decode cX4_many 147 = .ok (.aload_n 0, 1) := by decide +kernel
theorem dX4_many_148 : decode cX4_many 148 = .ok (.getfield 21, 3) := by decide +kernel
theorem dX4_many_151 : decode cX4_many 151 = .ok (.getfield 123, 3) := by decide +kernel
theorem dX4_many_154 : decode cX4_many 154 = .ok (.iconst 5, 1) := by decide +kernel
theorem dX4_many_155 : decode cX4_many 155 = .ok (.invokevirtual 168, 3) := by decide +kernel
theorem dX4_many_158 : decode cX4_many 158 = .ok (.ireturn, 1) := by decide +kernel
theorem dX4_many_159 : decode cX4_many 159 = .ok (.aload_n 0, 1) := by decide +kernel
theorem dX4_many_160 : decode cX4_many 160 = .ok (.getfield 21, 3) := by decide +kernel
theorem dX4_many_163 : decode cX4_many 163 = .ok (.invokevirtual 171, 3) := by decide +kernel
theorem dX4_many_166 : decode cX4_many 166 = .ok (.ireturn, 1) := by decide +kernel
theorem dX4_many_167 : decode cX4_many 167 = .ok (.aload_n 0, 1) := by decide +kernel
theorem dX4_many_168 : decode cX4_many 168 = .ok (.getfield 21, 3) := by decide +kernel
theorem dX4_many_171 : decode cX4_many 171 = .ok (.invokevirtual 174, 3) := by decide +kernel
theorem dX4_many_174 : decode cX4_many 174 = .ok (.ireturn, 1) := by decide +kernel
theorem dX4_many_175 : decode cX4_many 175 = .ok (.aload_n 0, 1) := by decide +kernel
theorem dX4_many_176 : decode cX4_many 176 = .ok (.getfield 10, 3) := by decide +kernel
theorem dX4_many_179 : decode cX4_many 179 = .ok (.invokevirtual 177, 3) := by decide +kernel
theorem dX4_many_182 : decode cX4_many 182 = .ok (.ireturn, 1) := by decide +kernel
theorem dX4_many_183 : decode cX4_many 183 = .ok (.iconst (-1), 1) := by decide +kernel
theorem dX4_many_184 : decode cX4_many 184 = .ok (.ireturn, 1) := by decide +kernel
theorem dX4_keep_0 : decode cX4_keep 0 = .ok (.aload_n 0, 1) := by decide +kernel
theorem dX4_keep_1 : decode cX4_keep 1 = .ok (.getfield 32, 3) := by decide +kernel
theorem dX4_keep_4 : decode cX4_keep 4 = .ok (.aload_n 0, 1) := by decide +kernel
theorem dX4_keep_5 : decode cX4_keep 5 = .ok (.getfield 10, 3) := by decide +kernel
theorem dX4_keep_8 : decode cX4_keep 8 = .ok (.invokevirtual 180, 3) := by decide +kernel
theorem dX4_keep_11 : decode cX4_keep 11 = .ok (.aload_n 0, 1) := by decide +kernel
theorem dX4_keep_12 : decode cX4_keep 12 = .ok (.getfield 35, 3) := by decide +kernel
theorem dX4_keep_15 : decode cX4_keep 15 = .ok (.aload_n 0, 1) := by decide +kernel
theorem dX4_keep_16 : decode cX4_keep 16 = .ok (.getfield 21, 3) := by decide +kernel
theorem dX4_keep_19 : decode cX4_keep 19 = .ok (.invokevirtual 183, 3) := by decide +kernel
theorem dX4_keep_22 : decode cX4_keep 22 = .ok (.aload_n 0, 1) := by decide +kernel
theorem dX4_keep_23 : decode cX4_keep 23 = .ok (.iconst 1, 1) := by decide +kernel
theorem dX4_keep_24 : decode cX4_keep 24 = .ok (.putfield 38, 3) := by decide +kernel
theorem dX4_keep_27 : decode cX4_keep 27 = .ok (.iconst 1, 1) := by decide +kernel
theorem dX4_keep_28 : decode cX4_keep 28 = .ok (.ireturn, 1) := by decide +kernel
theorem dX4_back_0 : decode cX4_back 0 = .ok (.aload_n 0, 1) := by decide +kernel
theorem dX4_back_1 : decode cX4_back 1 = .ok (.getfield 38, 3) := by decide +kernel
theorem dX4_back_4 : decode cX4_back 4 = .ok (.ifCond .ne 6, 3) := by decide +kernel
theorem dX4_back_7 : decode cX4_back 7 = .ok (.bipush (-4), 2) := by decide +kernel
theorem dX4_back_9 : decode cX4_back 9 = .ok (.ireturn, 1) := by decide +kernel
theorem dX4_back_10 : decode cX4_back 10 = .ok (.aload_n 0, 1) := by decide +kernel
theorem dX4_back_11 : decode cX4_back 11 = .ok (.getfield 10, 3) := by decide +kernel
theorem dX4_back_14 : decode cX4_back 14 = .ok (.aload_n 0, 1) := by decide +kernel
theorem dX4_back_15 : decode cX4_back 15 = .ok (.getfield 32, 3) := by decide +kernel
theorem dX4_back_18 : decode cX4_back 18 = .ok (.invokevirtual 180, 3) := by decide +kernel
theorem dX4_back_21 : decode cX4_back 21 = .ok (.aload_n 0, 1) := by decide +kernel
theorem dX4_back_22 : decode cX4_back 22 = .ok (.getfield 21, 3) := by decide +kernel
theorem dX4_back_25 : decode cX4_back 25 = .ok (.aload_n 0, 1) := by decide +kernel
theorem dX4_back_26 : decode cX4_back 26 = .ok (.getfield 35, 3) := by decide +kernel
theorem dX4_back_29 : decode cX4_back 29 = .ok (.invokevirtual 183, 3) := by decide +kernel
theorem dX4_back_32 : decode cX4_back 32 = .ok (.iconst 1, 1) := by decide +kernel
theorem dX4_back_33 : decode cX4_back 33 = .ok (.ireturn, 1) := by decide +kernel
theorem dX4_isWithin_0 : decode cX4_isWithin 0 = .ok (.iload_n 0, 1) := by decide +kernel
theorem dX4_isWithin_1 : decode cX4_isWithin 1 = .ok (.iload_n 1, 1) := by decide +kernel
theorem dX4_isWithin_2 : decode cX4_isWithin 2 = .ok (.if_icmp .lt 12, 3) := by decide +kernel
theorem dX4_isWithin_5 : decode cX4_isWithin 5 = .ok (.iload_n 0, 1) := by decide +kernel
theorem dX4_isWithin_6 : decode cX4_isWithin 6 = .ok (.iload_n 2, 1) := by decide +kernel
theorem dX4_isWithin_7 : decode cX4_isWithin 7 = .ok (.if_icmp .gt 7, 3) := by decide +kernel
theorem dX4_isWithin_10 : decode cX4_isWithin 10 = .ok (.iconst 1, 1) := by decide +kernel
theorem dX4_isWithin_11 : decode cX4_isWithin 11 = .ok (.goto 4, 3) := by decide +kernel
theorem dX4_isWithin_14 : decode cX4_isWithin 14 = .ok (.iconst 0, 1) := by decide +kernel
theorem dX4_isWithin_15 : decode cX4_isWithin 15 = .ok (.ireturn, 1) := by decide +kernel
theorem dX4_isLine_0 : decode cX4_isLine 0 = .ok (.iload_n 0, 1) := by decide +kernel
theorem dX4_isLine_1 : decode cX4_isLine 1 = .ok (.iconst 0, 1) := by decide +kernel
theorem dX4_isLine_2 : decode cX4_isLine 2 = .ok (.iconst 2, 1) := by decide +kernel
theorem dX4_isLine_3 : decode cX4_isLine 3 = .ok (.invokestatic 45, 3) := by decide +kernel
theorem dX4_isLine_6 : decode cX4_isLine 6 = .ok (.ireturn, 1) := by decide +kernel
theorem dX4_isNight_0 : decode cX4_isNight 0 = .ok (.iload_n 0, 1) := by decide +kernel
theorem dX4_isNight_1 : decode cX4_isNight 1 = .ok (.iconst 0, 1) := by decide +kernel
theorem dX4_isNight_2 : decode cX4_isNight 2 = .ok (.bipush 99, 2) := by decide +kernel
theorem dX4_isNight_4 : decode cX4_isNight 4 = .ok (.invokestatic 45, 3) := by decide +kernel
theorem dX4_isNight_7 : decode cX4_isNight 7 = .ok (.ireturn, 1) := by decide +kernel
theorem dX4_isTrait_0 : decode cX4_isTrait 0 = .ok (.iload_n 0, 1) := by decide +kernel
theorem dX4_isTrait_1 : decode cX4_isTrait 1 = .ok (.iconst 0, 1) := by decide +kernel
theorem dX4_isTrait_2 : decode cX4_isTrait 2 = .ok (.iconst 5, 1) := by decide +kernel
theorem dX4_isTrait_3 : decode cX4_isTrait 3 = .ok (.invokestatic 45, 3) := by decide +kernel
theorem dX4_isTrait_6 : decode cX4_isTrait 6 = .ok (.ifCond .eq 24, 3) := by decide +kernel
theorem dX4_isTrait_9 : decode cX4_isTrait 9 = .ok (.iload_n 1, 1) := by decide +kernel
theorem dX4_isTrait_10 : decode cX4_isTrait 10 = .ok (.getstatic 186, 3) := by decide +kernel
theorem dX4_isTrait_13 : decode cX4_isTrait 13 = .ok (.iload_n 0, 1) := by decide +kernel
theorem dX4_isTrait_14 : decode cX4_isTrait 14 = .ok (.iaload, 1) := by decide +kernel
theorem dX4_isTrait_15 : decode cX4_isTrait 15 = .ok (.getstatic 189, 3) := by decide +kernel
theorem dX4_isTrait_18 : decode cX4_isTrait 18 = .ok (.iload_n 0, 1) := by decide +kernel
theorem dX4_isTrait_19 : decode cX4_isTrait 19 = .ok (.iaload, 1) := by decide +kernel
theorem dX4_isTrait_20 : decode cX4_isTrait 20 = .ok (.invokestatic 45, 3) := by decide +kernel
theorem dX4_isTrait_23 : decode cX4_isTrait 23 = .ok (.ifCond .eq 7, 3) := by decide +kernel
theorem dX4_isTrait_26 : decode cX4_isTrait 26 = .ok (.iconst 1, 1) := by decide +kernel
theorem dX4_isTrait_27 : decode cX4_isTrait 27 = .ok (.goto 4, 3) := by decide +kernel
theorem dX4_isTrait_30 : decode cX4_isTrait 30 = .ok (.iconst 0, 1) := by decide +kernel
theorem dX4_isTrait_31 : decode cX4_isTrait 31 = .ok (.ireturn, 1) := by decide +kernel
theorem dX4_copyNumbers_0 : decode cX4_copyNumbers 0 = .ok (.aload_n 0, 1) := by decide +kernel
theorem dX4_copyNumbers_1 : decode cX4_copyNumbers 1 = .ok (.iconst 0, 1) := by decide +kernel
theorem dX4_copyNumbers_2 : decode cX4_copyNumbers 2 = .ok (.aload_n 1, 1) := by decide +kernel
theorem dX4_copyNumbers_3 : decode cX4_copyNumbers 3 = .ok (.iconst 0, 1) := by decide +kernel
theorem dX4_copyNumbers_4 : decode cX4_copyNumbers 4 = .ok (.aload_n 0, 1) := by decide +kernel
theorem dX4_copyNumbers_5 : decode cX4_copyNumbers 5 = .ok (.arraylength, 1) := by decide +kernel
theorem dX4_copyNumbers_6 : decode cX4_copyNumbers 6 = .ok (.aload_n 1, 1) := by decide +kernel
theorem dX4_copyNumbers_7 : decode cX4_copyNumbers 7 = .ok (.arraylength, 1) := by decide +kernel
theorem dX4_copyNumbers_8 : decode cX4_copyNumbers 8 = .ok (.invokestatic 192, 3) := by decide +kernel
theorem dX4_copyNumbers_11 : decode cX4_copyNumbers 11 = .ok (.invokestatic 197, 3) := by decide +kernel
theorem dX4_copyNumbers_14 : decode cX4_copyNumbers 14 = .ok (.return_, 1) := by decide +kernel
theorem dX5_init_0 : decode cX5_init 0 = .ok (.aload_n 0, 1) := by decide +kernel
theorem dX5_init_1 : decode cX5_init 1 = .ok (.invokespecial 1, 3) := by decide +kernel
theorem dX5_init_4 : decode cX5_init 4 = .ok (.aload_n 0, 1) := by decide +kernel
theorem dX5_init_5 : decode cX5_init 5 = .ok (.bipush 8, 2) := by decide +kernel
theorem dX5_init_7 : decode cX5_init 7 = .ok (.newarray .int, 2) := by decide +kernel
theorem dX5_init_9 : decode cX5_init 9 = .ok (.dup, 1) := by decide +kernel
theorem dX5_init_10 : decode cX5_init 10 = .ok (.iconst 0, 1) := by decide +kernel
theorem dX5_init_11 : decode cX5_init 11 = .ok (.iconst 1, 1) := by decide +kernel
theorem dX5_init_12 : decode cX5_init 12 = .ok (.iastore, 1) := by decide +kernel
theorem dX5_init_13 : decode cX5_init 13 = .ok (.dup, 1) := by decide +kernel
theorem dX5_init_14 : decode cX5_init 14 = .ok (.iconst 1, 1) := by decide +kernel
theorem dX5_init_15 : decode cX5_init 15 = .ok (.iconst 0, 1) := by decide +kernel
theorem dX5_init_16 : decode cX5_init 16 = .ok (.iastore, 1) := by decide +kernel
theorem dX5_init_17 : decode cX5_init 17 = .ok (.dup, 1) := by decide +kernel
theorem dX5_init_18 : decode cX5_init 18 = .ok (.iconst 2, 1) := by decide +kernel
theorem dX5_init_19 : decode cX5_init 19 = .ok (.iconst 0, 1) := by decide +kernel
theorem dX5_init_20 : decode cX5_init 20 = .ok (.iastore, 1) := by decide +kernel
theorem dX5_init_21 : decode cX5_init 21 = .ok (.dup, 1) := by decide +kernel
theorem dX5_init_22 : decode cX5_init 22 = .ok (.iconst 3, 1) := by decide +kernel
theorem dX5_init_23 : decode cX5_init 23 = .ok (.iconst 0, 1) := by decide +kernel
theorem dX5_init_24 : decode cX5_init 24 = .ok (.iastore, 1) := by decide +kernel
theorem dX5_init_25 : decode cX5_init 25 = .ok (.dup, 1) := by decide +kernel
theorem dX5_init_26 : decode cX5_init 26 = .ok (.iconst 4, 1) := by decide +kernel
theorem dX5_init_27 : decode cX5_init 27 = .ok (.iconst 0, 1) := by decide +kernel
theorem dX5_init_28 : decode cX5_init 28 = .ok (.iastore, 1) := by decide +kernel
theorem dX5_init_29 : decode cX5_init 29 = .ok (.dup, 1) := by decide +kernel
theorem dX5_init_30 : decode cX5_init 30 = .ok (.iconst 5, 1) := by decide +kernel
theorem dX5_init_31 : decode cX5_init 31 = .ok (.iconst 1, 1) := by decide +kernel
theorem dX5_init_32 : decode cX5_init 32 = .ok (.iastore, 1) := by decide +kernel
theorem dX5_init_33 : decode cX5_init 33 = .ok (.dup, 1) := by decide +kernel
theorem dX5_init_34 : decode cX5_init 34 = .ok (.bipush 6, 2) := by decide +kernel
theorem dX5_init_36 : decode cX5_init 36 = .ok (.bipush 10, 2) := by decide +kernel
theorem dX5_init_38 : decode cX5_init 38 = .ok (.iastore, 1) := by decide +kernel
theorem dX5_init_39 : decode cX5_init 39 = .ok (.dup, 1) := by decide +kernel
theorem dX5_init_40 : decode cX5_init 40 = .ok (.bipush 7, 2) := by decide +kernel
theorem dX5_init_42 : decode cX5_init 42 = .ok (.iconst 0, 1) := by decide +kernel
theorem dX5_init_43 : decode cX5_init 43 = .ok (.iastore, 1) := by decide +kernel
theorem dX5_init_44 : decode cX5_init 44 = .ok (.putfield 7, 3) := by decide +kernel
theorem dX5_init_47 : decode cX5_init 47 = .ok (.aload_n 0, 1) := by decide +kernel
theorem dX5_init_48 : decode cX5_init 48 = .ok (.bipush 24, 2) := by decide +kernel
theorem dX5_init_50 : decode cX5_init 50 = .ok (.newarray .int, 2) := by decide +kernel
theorem dX5_init_52 : decode cX5_init 52 = .ok (.putfield 13, 3) := by decide +kernel
theorem dX5_init_55 : decode cX5_init 55 = .ok (.aload_n 0, 1) := by decide +kernel
theorem dX5_init_56 : decode cX5_init 56 = .ok (.bipush 9, 2) := by decide +kernel
theorem dX5_init_58 : decode cX5_init 58 = .ok (.newarray .int, 2) := by decide +kernel
theorem dX5_init_60 : decode cX5_init 60 = .ok (.dup, 1) := by decide +kernel
theorem dX5_init_61 : decode cX5_init 61 = .ok (.iconst 0, 1) := by decide +kernel
theorem dX5_init_62 : decode cX5_init 62 = .ok (.bipush 30, 2) := by decide +kernel
theorem dX5_init_64 : decode cX5_init 64 = .ok (.iastore, 1) := by decide +kernel
theorem dX5_init_65 : decode cX5_init 65 = .ok (.dup, 1) := by decide +kernel
theorem dX5_init_66 : decode cX5_init 66 = .ok (.iconst 1, 1) := by decide +kernel
theorem dX5_init_67 : decode cX5_init 67 = .ok (.iconst 0, 1) := by decide +kernel
theorem dX5_init_68 : decode cX5_init 68 = .ok (.iastore, 1) := by decide +kernel
theorem dX5_init_69 : decode cX5_init 69 = .ok (.dup, 1) := by decide +kernel
theorem dX5_init_70 : decode cX5_init 70 = .ok (.iconst 2, 1) := by decide +kernel
theorem dX5_init_71 : decode cX5_init 71 = .ok (.iconst 0, 1) := by decide +kernel
theorem dX5_init_72 : decode cX5_init 72 = .ok (.iastore, 1) := by decide +kernel
theorem dX5_init_73 : decode cX5_init 73 = .ok (.dup, 1) := by decide +kernel
theorem dX5_init_74 : decode cX5_init 74 = .ok (.iconst 3, 1) := by decide +kernel
theorem dX5_init_75 : decode cX5_init 75 = .ok (.bipush 30, 2) := by decide +kernel
theorem dX5_init_77 : decode cX5_init 77 = .ok (.iastore, 1) := by decide +kernel
theorem dX5_init_78 : decode cX5_init 78 = .ok (.dup, 1) := by decide +kernel
theorem dX5_init_79 : decode cX5_init 79 = .ok (.iconst 4, 1) := by decide +kernel
theorem dX5_init_80 : decode cX5_init 80 = .ok (.iconst 0, 1) := by decide +kernel
theorem dX5_init_81 : decode cX5_init 81 = .ok (.iastore, 1) := by decide +kernel
theorem dX5_init_82 : decode cX5_init 82 = .ok (.dup, 1) := by decide +kernel
theorem dX5_init_83 : decode cX5_init 83 = .ok (.iconst 5, 1) := by decide +kernel
theorem dX5_init_84 : decode cX5_init 84 = .ok (.iconst 0, 1) := by decide +kernel
theorem dX5_init_85 : decode cX5_init 85 = .ok (.iastore, 1) := by decide +kernel
theorem dX5_init_86 : decode cX5_init 86 = .ok (.dup, 1) := by decide +kernel
theorem dX5_init_87 : decode cX5_init 87 = .ok (.bipush 6, 2) := by decide +kernel
theorem dX5_init_89 : decode cX5_init 89 = .ok (.bipush 30, 2) := by decide +kernel
theorem dX5_init_91 : decode cX5_init 91 = .ok (.iastore, 1) := by decide +kernel
theorem dX5_init_92 : decode cX5_init 92 = .ok (.dup, 1) := by decide +kernel
theorem dX5_init_93 : decode cX5_init 93 = .ok (.bipush 7, 2) := by decide +kernel
theorem dX5_init_95 : decode cX5_init 95 = .ok (.iconst 0, 1) := by decide +kernel
theorem dX5_init_96 : decode cX5_init 96 = .ok (.iastore, 1) := by decide +kernel
theorem dX5_init_97 : decode cX5_init 97 = .ok (.dup, 1) := by decide +kernel
theorem dX5_init_98 : decode cX5_init 98 = .ok (.bipush 8, 2) := by decide +kernel
theorem dX5_init_100 : decode cX5_init 100 = .ok (.iconst 0, 1) := by decide +kernel
theorem dX5_init_101 : decode cX5_init 101 = .ok (.iastore, 1) := by decide +kernel
theorem dX5_init_102 : decode cX5_init 102 = .ok (.putfield 16, 3) := by decide +kernel
theorem dX5_init_105 : decode cX5_init 105 = .ok (.aload_n 0, 1) := by decide +kernel
theorem dX5_init_106 : decode cX5_init 106 = .ok (.bipush 16, 2) := by decide +kernel
theorem dX5_init_108 : decode cX5_init 108 = .ok (.newarray .int, 2) := by decide +kernel
theorem dX5_init_110 : decode cX5_init 110 = .ok (.putfield 19, 3) := by decide +kernel
theorem dX5_init_113 : decode cX5_init 113 = .ok (.aload_n 0, 1) := by decide +kernel
theorem dX5_init_114 : decode cX5_init 114 = .ok (.bipush 55, 2) := by decide +kernel
theorem dX5_init_116 : decode cX5_init 116 = .ok (.newarray .int, 2) := by decide +kernel
theorem dX5_init_118 : decode cX5_init 118 = .ok (.putfield 22, 3) := by decide +kernel
theorem dX5_init_121 : decode cX5_init 121 = .ok (.aload_n 0, 1) := by decide +kernel
theorem dX5_init_122 : decode cX5_init 122 = .ok (.sipush 140, 3) := by decide +kernel
theorem dX5_init_125 : decode cX5_init 125 = .ok (.newarray .int, 2) := by decide +kernel
theorem dX5_init_127 : decode cX5_init 127 = .ok (.putfield 25, 3) := by decide +kernel
theorem dX5_init_130 : decode cX5_init 130 = .ok (.aload_n 0, 1) := by decide +kernel
theorem dX5_init_131 : decode cX5_init 131 = .ok (.sipush 260, 3) := by decide +kernel
theorem dX5_init_134 : decode cX5_init 134 = .ok (.newarray .int, 2) := by decide +kernel
theorem dX5_init_136 : decode cX5_init 136 = .ok (.putfield 28, 3) := by decide +kernel
theorem dX5_init_139 : decode cX5_init 139 = .ok (.aload_n 0, 1) := by decide +kernel
theorem dX5_init_140 : decode cX5_init 140 = .ok (.bipush 6, 2) := by decide +kernel
theorem dX5_init_142 : decode cX5_init 142 = .ok (.newarray .int, 2) := by decide +kernel
theorem dX5_init_144 : decode cX5_init 144 = .ok (.putfield 31, 3) := by decide +kernel
theorem dX5_init_147 : decode cX5_init 147 = .ok (.aload_n 0, 1) := by decide +kernel
theorem dX5_init_148 : decode cX5_init 148 = .ok (.iconst 5, 1) := by decide +kernel
theorem dX5_init_149 : decode cX5_init 149 = .ok (.newarray .int, 2) := by decide +kernel
theorem dX5_init_151 : decode cX5_init 151 = .ok (.putfield 34, 3) := by decide +kernel
theorem dX5_init_154 : decode cX5_init 154 = .ok (.return_, 1) := by decide +kernel
theorem dX5_in_0 : decode cX5_in 0 = .ok (.iload_n 0, 1) := by decide +kernel
theorem dX5_in_1 : decode cX5_in 1 = .ok (.iload_n 1, 1) := by decide +kernel
theorem dX5_in_2 : decode cX5_in 2 = .ok (.if_icmp .lt 12, 3) := by decide +kernel
theorem dX5_in_5 : decode cX5_in 5 = .ok (.iload_n 0, 1) := by decide +kernel
theorem dX5_in_6 : decode cX5_in 6 = .ok (.iload_n 2, 1) := by decide +kernel
theorem dX5_in_7 : decode cX5_in 7 = .ok (.if_icmp .gt 7, 3) := by decide +kernel
theorem dX5_in_10 : decode cX5_in 10 = .ok (.iconst 1, 1) := by decide +kernel
theorem dX5_in_11 : decode cX5_in 11 = .ok (.goto 4, 3) := by decide +kernel
theorem dX5_in_14 : decode cX5_in 14 = .ok (.iconst 0, 1) := by decide +kernel
theorem dX5_in_15 : decode cX5_in 15 = .ok (.ireturn, 1) := by decide +kernel
theorem dX5_isOpen_0 : decode cX5_isOpen 0 = .ok (.aload_n 0, 1) := by decide +kernel
theorem dX5_isOpen_1 : decode cX5_isOpen 1 = .ok (.getfield 7, 3) := by decide +kernel
theorem dX5_isOpen_4 : decode cX5_isOpen 4 = .ok (.iconst 2, 1) := by decide +kernel
theorem dX5_isOpen_5 : decode cX5_isOpen 5 = .ok (.iaload, 1) := by decide +kernel
theorem dX5_isOpen_6 : decode cX5_isOpen 6 = .ok (.iconst 1, 1) := by decide +kernel
theorem dX5_isOpen_7 : decode cX5_isOpen 7 = .ok (.if_icmp .ne 7, 3) := by decide +kernel
theorem dX5_isOpen_10 : decode cX5_isOpen 10 = .ok (.iconst 1, 1) := by decide +kernel
theorem dX5_isOpen_11 : decode cX5_isOpen 11 = .ok (.goto 4, 3) := by decide +kernel
theorem dX5_isOpen_14 : decode cX5_isOpen 14 = .ok (.iconst 0, 1) := by decide +kernel
theorem dX5_isOpen_15 : decode cX5_isOpen 15 = .ok (.ireturn, 1) := by decide +kernel
theorem dX5_isPlace_0 : decode cX5_isPlace 0 = .ok (.iload_n 1, 1) := by decide +kernel
theorem dX5_isPlace_1 : decode cX5_isPlace 1 = .ok (.iconst 0, 1) := by decide +kernel
theorem dX5_isPlace_2 : decode cX5_isPlace 2 = .ok (.aload_n 0, 1) := by decide +kernel
theorem dX5_isPlace_3 : decode cX5_isPlace 3 = .ok (.getfield 7, 3) := by decide +kernel
theorem dX5_isPlace_6 : decode cX5_isPlace 6 = .ok (.iconst 0, 1) := by decide +kernel
theorem dX5_isPlace_7 : decode cX5_isPlace 7 = .ok (.iaload, 1) := by decide +kernel
theorem dX5_isPlace_8 : decode cX5_isPlace 8 = .ok (.iconst 1, 1) := by decide +kernel
theorem dX5_isPlace_9 : decode cX5_isPlace 9 = .ok (.isub, 1) := by decide +kernel
theorem dX5_isPlace_10 : decode cX5_isPlace 10 = .ok (.invokestatic 37, 3) := by decide +kernel
theorem dX5_isPlace_13 : decode cX5_isPlace 13 = .ok (.ireturn, 1) := by decide +kernel
theorem dX5_isStall_0 : decode cX5_isStall 0 = .ok (.iload_n 1, 1) := by decide +kernel
theorem dX5_isStall_1 : decode cX5_isStall 1 = .ok (.iconst 0, 1) := by decide +kernel
theorem dX5_isStall_2 : decode cX5_isStall 2 = .ok (.aload_n 0, 1) := by decide +kernel
theorem dX5_isStall_3 : decode cX5_isStall 3 = .ok (.getfield 7, 3) := by decide +kernel
theorem dX5_isStall_6 : decode cX5_isStall 6 = .ok (.iconst 1, 1) := by decide +kernel
theorem dX5_isStall_7 : decode cX5_isStall 7 = .ok (.iaload, 1) := by decide +kernel
theorem dX5_isStall_8 : decode cX5_isStall 8 = .ok (.iconst 1, 1) := by decide +kernel
theorem dX5_isStall_9 : decode cX5_isStall 9 = .ok (.isub, 1) := by decide +kernel
theorem dX5_isStall_10 : decode cX5_isStall 10 = .ok (.invokestatic 37, 3) := by decide +kernel
theorem dX5_isStall_13 : decode cX5_isStall 13 = .ok (.ireturn, 1) := by decide +kernel
theorem dX5_isLine_0 : decode cX5_isLine 0 = .ok (.iload_n 0, 1) := by decide +kernel
theorem dX5_isLine_1 : decode cX5_isLine 1 = .ok (.iconst 0, 1) := by decide +kernel
theorem dX5_isLine_2 : decode cX5_isLine 2 = .ok (.iconst 2, 1) := by decide +kernel
theorem dX5_isLine_3 : decode cX5_isLine 3 = .ok (.invokestatic 37, 3) := by decide +kernel
theorem dX5_isLine_6 : decode cX5_isLine 6 = .ok (.ireturn, 1) := by decide +kernel
theorem dX5_isNight_0 : decode cX5_isNight 0 = .ok (.iload_n 0, 1) := by decide +kernel
theorem dX5_isNight_1 : decode cX5_isNight 1 = .ok (.iconst 0, 1) := by decide +kernel
theorem dX5_isNight_2 : decode cX5_isNight 2 = .ok (.bipush 99, 2) := by decide +kernel
theorem dX5_isNight_4 : decode cX5_isNight 4 = .ok (.invokestatic 37, 3) := by decide +kernel
theorem dX5_isNight_7 : decode cX5_isNight 7 = .ok (.ireturn, 1) := by decide +kernel
theorem dX5_placeOf_0 : decode cX5_placeOf 0 = .ok (.aload_n 0, 1) := by decide +kernel
theorem dX5_placeOf_1 : decode cX5_placeOf 1 = .ok (.getfield 22, 3) := by decide +kernel
theorem dX5_placeOf_4 : decode cX5_placeOf 4 = .ok (.bipush 11, 2) := by decide +kernel
theorem dX5_placeOf_6 : decode cX5_placeOf 6 = .ok (.iload_n 1, 1) := by decide +kernel
theorem dX5_placeOf_7 : decode cX5_placeOf 7 = .ok (.imul, 1) := by decide +kernel
theorem dX5_placeOf_8 : decode cX5_placeOf 8 = .ok (.bipush 6, 2) := by decide +kernel
theorem dX5_placeOf_10 : decode cX5_placeOf 10 = .ok (.iadd, 1) := by decide +kernel
theorem dX5_placeOf_11 : decode cX5_placeOf 11 = .ok (.iaload, 1) := by decide +kernel
theorem dX5_placeOf_12 : decode cX5_placeOf 12 = .ok (.ireturn, 1) := by decide +kernel
theorem dX5_clear_0 : decode cX5_clear 0 = .ok (.aload_n 0, 1) := by decide +kernel
theorem dX5_clear_1 : decode cX5_clear 1 = .ok (.getfield 7, 3) := by decide +kernel
theorem dX5_clear_4 : decode cX5_clear 4 = .ok (.iconst 3, 1) := by decide +kernel
theorem dX5_clear_5 : decode cX5_clear 5 = .ok (.iconst 0, 1) := by decide +kernel
theorem dX5_clear_6 : decode cX5_clear 6 = .ok (.iastore, 1) := by decide +kernel
theorem dX5_clear_7 : decode cX5_clear 7 = .ok (.aload_n 0, 1) := by decide +kernel
theorem dX5_clear_8 : decode cX5_clear 8 = .ok (.getfield 7, 3) := by decide +kernel
theorem dX5_clear_11 : decode cX5_clear 11 = .ok (.iconst 4, 1) := by decide +kernel
theorem dX5_clear_12 : decode cX5_clear 12 = .ok (.iconst 0, 1) := by decide +kernel
theorem dX5_clear_13 : decode cX5_clear 13 = .ok (.iastore, 1) := by decide +kernel
theorem dX5_clear_14 : decode cX5_clear 14 = .ok (.aload_n 0, 1) := by decide +kernel
theorem dX5_clear_15 : decode cX5_clear 15 = .ok (.getfield 7, 3) := by decide +kernel
theorem dX5_clear_18 : decode cX5_clear 18 = .ok (.bipush 7, 2) := by decide +kernel
theorem dX5_clear_20 : decode cX5_clear 20 = .ok (.iconst 0, 1) := by decide +kernel
theorem dX5_clear_21 : decode cX5_clear 21 = .ok (.iastore, 1) := by decide +kernel
theorem dX5_clear_22 : decode cX5_clear 22 = .ok (.iconst 0, 1) := by decide +kernel
theorem dX5_clear_23 : decode cX5_clear 23 = .ok (.istore_n 1, 1) := by decide +kernel
theorem dX5_clear_24 : decode cX5_clear 24 = .ok (.iload_n 1, 1) := by decide +kernel
theorem dX5_clear_25 : decode cX5_clear 25 = .ok (.iconst 3, 1) := by decide +kernel
theorem dX5_clear_26 : decode cX5_clear 26 = .ok (.if_icmp .ge 31, 3) := by decide +kernel
theorem dX5_clear_29 : decode cX5_clear 29 = .ok (.aload_n 0, 1) := by decide +kernel
theorem dX5_clear_30 : decode cX5_clear 30 = .ok (.getfield 16, 3) := by decide +kernel
theorem dX5_clear_33 : decode cX5_clear 33 = .ok (.iconst 3, 1) := by decide +kernel
theorem dX5_clear_34 : decode cX5_clear 34 = .ok (.iload_n 1, 1) := by decide +kernel
theorem dX5_clear_35 : decode cX5_clear 35 = .ok (.imul, 1) := by decide +kernel
theorem dX5_clear_36 : decode cX5_clear 36 = .ok (.iconst 1, 1) := by decide +kernel
theorem dX5_clear_37 : decode cX5_clear 37 = .ok (.iadd, 1) := by decide +kernel
theorem dX5_clear_38 : decode cX5_clear 38 = .ok (.iconst 0, 1) := by decide +kernel
theorem dX5_clear_39 : decode cX5_clear 39 = .ok (.iastore, 1) := by decide +kernel
theorem dX5_clear_40 : decode cX5_clear 40 = .ok (.aload_n 0, 1) := by decide +kernel
theorem dX5_clear_41 : decode cX5_clear 41 = .ok (.getfield 16, 3) := by decide +kernel
theorem dX5_clear_44 : decode cX5_clear 44 = .ok (.iconst 3, 1) := by decide +kernel
theorem dX5_clear_45 : decode cX5_clear 45 = .ok (.iload_n 1, 1) := by decide +kernel
theorem dX5_clear_46 : decode cX5_clear 46 = .ok (.imul, 1) := by decide +kernel
theorem dX5_clear_47 : decode cX5_clear 47 = .ok (.iconst 2, 1) := by decide +kernel
theorem dX5_clear_48 : decode cX5_clear 48 = .ok (.iadd, 1) := by decide +kernel
theorem dX5_clear_49 : decode cX5_clear 49 = .ok (.iconst 0, 1) := by decide +kernel
theorem dX5_clear_50 : decode cX5_clear 50 = .ok (.iastore, 1) := by decide +kernel
theorem dX5_clear_51 : decode cX5_clear 51 = .ok (.iinc 1 1, 3) := by decide +kernel
theorem dX5_clear_54 : decode cX5_clear 54 = .ok (.goto (-30), 3) := by decide +kernel
theorem dX5_clear_57 : decode cX5_clear 57 = .ok (.iconst 0, 1) := by decide +kernel
theorem dX5_clear_58 : decode cX5_clear 58 = .ok (.istore_n 1, 1) := by decide +kernel
theorem dX5_clear_59 : decode cX5_clear 59 = .ok (.iload_n 1, 1) := by decide +kernel
theorem dX5_clear_60 : decode cX5_clear 60 = .ok (.iconst 5, 1) := by decide +kernel
theorem dX5_clear_61 : decode cX5_clear 61 = .ok (.if_icmp .ge 74, 3) := by decide +kernel
theorem dX5_clear_64 : decode cX5_clear 64 = .ok (.aload_n 0, 1) := by decide +kernel
theorem dX5_clear_65 : decode cX5_clear 65 = .ok (.getfield 22, 3) := by decide +kernel
theorem dX5_clear_68 : decode cX5_clear 68 = .ok (.bipush 11, 2) := by decide +kernel
theorem dX5_clear_70 : decode cX5_clear 70 = .ok (.iload_n 1, 1) := by decide +kernel
theorem dX5_clear_71 : decode cX5_clear 71 = .ok (.imul, 1) := by decide +kernel
theorem dX5_clear_72 : decode cX5_clear 72 = .ok (.bipush 6, 2) := by decide +kernel
theorem dX5_clear_74 : decode cX5_clear 74 = .ok (.iadd, 1) := by decide +kernel
theorem dX5_clear_75 : decode cX5_clear 75 = .ok (.iconst (-1), 1) := by decide +kernel
theorem dX5_clear_76 : decode cX5_clear 76 = .ok (.iastore, 1) := by decide +kernel
theorem dX5_clear_77 : decode cX5_clear 77 = .ok (.aload_n 0, 1) := by decide +kernel
theorem dX5_clear_78 : decode cX5_clear 78 = .ok (.getfield 22, 3) := by decide +kernel
theorem dX5_clear_81 : decode cX5_clear 81 = .ok (.bipush 11, 2) := by decide +kernel
theorem dX5_clear_83 : decode cX5_clear 83 = .ok (.iload_n 1, 1) := by decide +kernel
theorem dX5_clear_84 : decode cX5_clear 84 = .ok (.imul, 1) := by decide +kernel
theorem dX5_clear_85 : decode cX5_clear 85 = .ok (.bipush 7, 2) := by decide +kernel
theorem dX5_clear_87 : decode cX5_clear 87 = .ok (.iadd, 1) := by decide +kernel
theorem dX5_clear_88 : decode cX5_clear 88 = .ok (.iconst 0, 1) := by decide +kernel
theorem dX5_clear_89 : decode cX5_clear 89 = .ok (.iastore, 1) := by decide +kernel
theorem dX5_clear_90 : decode cX5_clear 90 = .ok (.aload_n 0, 1) := by decide +kernel
theorem dX5_clear_91 : decode cX5_clear 91 = .ok (.getfield 22, 3) := by decide +kernel
theorem dX5_clear_94 : decode cX5_clear 94 = .ok (.bipush 11, 2) := by decide +kernel
theorem dX5_clear_96 : decode cX5_clear 96 = .ok (.iload_n 1, 1) := by decide +kernel
theorem dX5_clear_97 : decode cX5_clear 97 = .ok (.imul, 1) := by decide +kernel
theorem dX5_clear_98 : decode cX5_clear 98 = .ok (.bipush 8, 2) := by decide +kernel
theorem dX5_clear_100 : decode cX5_clear 100 = .ok (.iadd, 1) := by decide +kernel
theorem dX5_clear_101 : decode cX5_clear 101 = .ok (.iconst 0, 1) := by decide +kernel
theorem dX5_clear_102 : decode cX5_clear 102 = .ok (.iastore, 1) := by decide +kernel
theorem dX5_clear_103 : decode cX5_clear 103 = .ok (.aload_n 0, 1) := by decide +kernel
theorem dX5_clear_104 : decode cX5_clear 104 = .ok (.getfield 22, 3) := by decide +kernel
theorem dX5_clear_107 : decode cX5_clear 107 = .ok (.bipush 11, 2) := by decide +kernel
theorem dX5_clear_109 : decode cX5_clear 109 = .ok (.iload_n 1, 1) := by decide +kernel
theorem dX5_clear_110 : decode cX5_clear 110 = .ok (.imul, 1) := by decide +kernel
theorem dX5_clear_111 : decode cX5_clear 111 = .ok (.bipush 9, 2) := by decide +kernel
theorem dX5_clear_113 : decode cX5_clear 113 = .ok (.iadd, 1) := by decide +kernel
theorem dX5_clear_114 : decode cX5_clear 114 = .ok (.iconst 0, 1) := by decide +kernel
theorem dX5_clear_115 : decode cX5_clear 115 = .ok (.iastore, 1) := by decide +kernel
theorem dX5_clear_116 : decode cX5_clear 116 = .ok (.aload_n 0, 1) := by decide +kernel
theorem dX5_clear_117 : decode cX5_clear 117 = .ok (.getfield 22, 3) := by decide +kernel
theorem dX5_clear_120 : decode cX5_clear 120 = .ok (.bipush 11, 2) := by decide +kernel
theorem dX5_clear_122 : decode cX5_clear 122 = .ok (.iload_n 1, 1) := by decide +kernel
theorem dX5_clear_123 : decode cX5_clear 123 = .ok (.imul, 1) := by decide +kernel
theorem dX5_clear_124 : decode cX5_clear 124 = .ok (.bipush 10, 2) := by decide +kernel
theorem dX5_clear_126 : decode cX5_clear 126 = .ok (.iadd, 1) := by decide +kernel
theorem dX5_clear_127 : decode cX5_clear 127 = .ok (.iconst (-1), 1) := by decide +kernel
theorem dX5_clear_128 : decode cX5_clear 128 = .ok (.iastore, 1) := by decide +kernel
theorem dX5_clear_129 : decode cX5_clear 129 = .ok (.iinc 1 1, 3) := by decide +kernel
theorem dX5_clear_132 : decode cX5_clear 132 = .ok (.goto (-73), 3) := by decide +kernel
theorem dX5_clear_135 : decode cX5_clear 135 = .ok (.return_, 1) := by decide +kernel
theorem dX5_street_0 : decode cX5_street 0 = .ok (.aload_n 0, 1) := by decide +kernel
theorem dX5_street_1 : decode cX5_street 1 = .ok (.invokevirtual 41, 3) := by decide +kernel
theorem dX5_street_4 : decode cX5_street 4 = .ok (.ifCond .eq 6, 3) := by decide +kernel
theorem dX5_street_7 : decode cX5_street 7 = .ok (.bipush (-3), 2) := by decide +kernel
theorem dX5_street_9 : decode cX5_street 9 = .ok (.ireturn, 1) := by decide +kernel
theorem dX5_street_10 : decode cX5_street 10 = .ok (.iload_n 1, 1) := by decide +kernel
theorem dX5_street_11 : decode cX5_street 11 = .ok (.iconst 1, 1) := by decide +kernel
theorem dX5_street_12 : decode cX5_street 12 = .ok (.bipush 8, 2) := by decide +kernel
theorem dX5_street_14 : decode cX5_street 14 = .ok (.invokestatic 37, 3) := by decide +kernel
theorem dX5_street_17 : decode cX5_street 17 = .ok (.ifCond .ne 5, 3) := by decide +kernel
theorem dX5_street_20 : decode cX5_street 20 = .ok (.iconst (-1), 1) := by decide +kernel
theorem dX5_street_21 : decode cX5_street 21 = .ok (.ireturn, 1) := by decide +kernel
theorem dX5_street_22 : decode cX5_street 22 = .ok (.aload_n 0, 1) := by decide +kernel
theorem dX5_street_23 : decode cX5_street 23 = .ok (.getfield 7, 3) := by decide +kernel
theorem dX5_street_26 : decode cX5_street 26 = .ok (.iconst 0, 1) := by decide +kernel
theorem dX5_street_27 : decode cX5_street 27 = .ok (.iload_n 1, 1) := by decide +kernel
theorem dX5_street_28 : decode cX5_street 28 = .ok (.iastore, 1) := by decide +kernel
theorem dX5_street_29 : decode cX5_street 29 = .ok (.iconst 0, 1) := by decide +kernel
theorem dX5_street_30 : decode cX5_street 30 = .ok (.istore_n 2, 1) := by decide +kernel
theorem dX5_street_31 : decode cX5_street 31 = .ok (.iload_n 2, 1) := by decide +kernel
theorem dX5_street_32 : decode cX5_street 32 = .ok (.bipush 24, 2) := by decide +kernel
theorem dX5_street_34 : decode cX5_street 34 = .ok (.if_icmp .ge 16, 3) := by decide +kernel
theorem dX5_street_37 : decode cX5_street 37 = .ok (.aload_n 0, 1) := by decide +kernel
theorem dX5_street_38 : decode cX5_street 38 = .ok (.getfield 13, 3) := by decide +kernel
theorem dX5_street_41 : decode cX5_street 41 = .ok (.iload_n 2, 1) := by decide +kernel
theorem dX5_street_42 : decode cX5_street 42 = .ok (.iconst 0, 1) := by decide +kernel
theorem dX5_street_43 : decode cX5_street 43 = .ok (.iastore, 1) := by decide +kernel
theorem dX5_street_44 : decode cX5_street 44 = .ok (.iinc 2 1, 3) := by decide +kernel
theorem dX5_street_47 : decode cX5_street 47 = .ok (.goto (-16), 3) := by decide +kernel
theorem dX5_street_50 : decode cX5_street 50 = .ok (.aload_n 0, 1) := by decide +kernel
theorem dX5_street_51 : decode cX5_street 51 = .ok (.invokevirtual 45, 3) := by decide +kernel
theorem dX5_street_54 : decode cX5_street 54 = .ok (.iload_n 1, 1) := by decide +kernel
theorem dX5_street_55 : decode cX5_street 55 = .ok (.ireturn, 1) := by decide +kernel
theorem dX5_place_0 : decode cX5_place 0 = .ok (.aload_n 0, 1) := by decide +kernel
theorem dX5_place_1 : decode cX5_place 1 = .ok (.invokevirtual 41, 3) := by decide +kernel
theorem dX5_place_4 : decode cX5_place 4 = .ok (.ifCond .eq 6, 3) := by decide +kernel
theorem dX5_place_7 : decode cX5_place 7 = .ok (.bipush (-3), 2) := by decide +kernel
theorem dX5_place_9 : decode cX5_place 9 = .ok (.ireturn, 1) := by decide +kernel
theorem dX5_place_10 : decode cX5_place 10 = .ok (.aload_n 0, 1) := by decide +kernel
theorem dX5_place_11 : decode cX5_place 11 = .ok (.iload_n 1, 1) := by decide +kernel
theorem dX5_place_12 : decode cX5_place 12 = .ok (.invokevirtual 48, 3) := by decide +kernel
theorem dX5_place_15 : decode cX5_place 15 = .ok (.ifCond .eq 39, 3) := by decide +kernel
theorem dX5_place_18 : decode cX5_place 18 = .ok (.iload_n 2, 1) := by decide +kernel
theorem dX5_place_19 : decode cX5_place 19 = .ok (.iconst 0, 1) := by decide +kernel
theorem dX5_place_20 : decode cX5_place 20 = .ok (.iconst 2, 1) := by decide +kernel
theorem dX5_place_21 : decode cX5_place 21 = .ok (.invokestatic 37, 3) := by decide +kernel
theorem dX5_place_24 : decode cX5_place 24 = .ok (.ifCond .eq 30, 3) := by decide +kernel
theorem dX5_place_27 : decode cX5_place 27 = .ok (.iload_n 3, 1) := by decide +kernel
theorem dX5_place_28 : decode cX5_place 28 = .ok (.iconst 0, 1) := by decide +kernel
theorem dX5_place_29 : decode cX5_place 29 = .ok (.iload_n 2, 1) := by decide +kernel
theorem dX5_place_30 : decode cX5_place 30 = .ok (.ifCond .ne 8, 3) := by decide +kernel
theorem dX5_place_33 : decode cX5_place 33 = .ok (.bipush 99, 2) := by decide +kernel
theorem dX5_place_35 : decode cX5_place 35 = .ok (.goto 13, 3) := by decide +kernel
theorem dX5_place_38 : decode cX5_place 38 = .ok (.iload_n 2, 1) := by decide +kernel
theorem dX5_place_39 : decode cX5_place 39 = .ok (.iconst 1, 1) := by decide +kernel
theorem dX5_place_40 : decode cX5_place 40 = .ok (.if_icmp .ne 7, 3) := by decide +kernel
theorem dX5_place_43 : decode cX5_place 43 = .ok (.iconst 2, 1) := by decide +kernel
theorem dX5_place_44 : decode cX5_place 44 = .ok (.goto 4, 3) := by decide +kernel
theorem dX5_place_47 : decode cX5_place 47 = .ok (.iconst 1, 1) := by decide +kernel
theorem dX5_place_48 : decode cX5_place 48 = .ok (.invokestatic 37, 3) := by decide +kernel
theorem dX5_place_51 : decode cX5_place 51 = .ok (.ifCond .ne 5, 3) := by decide +kernel
theorem dX5_place_54 : decode cX5_place 54 = .ok (.iconst (-1), 1) := by decide +kernel
theorem dX5_place_55 : decode cX5_place 55 = .ok (.ireturn, 1) := by decide +kernel
theorem dX5_place_56 : decode cX5_place 56 = .ok (.aload_n 0, 1) := by decide +kernel
theorem dX5_place_57 : decode cX5_place 57 = .ok (.getfield 13, 3) := by decide +kernel
theorem dX5_place_60 : decode cX5_place 60 = .ok (.iconst 3, 1) := by decide +kernel
theorem dX5_place_61 : decode cX5_place 61 = .ok (.iload_n 1, 1) := by decide +kernel
theorem dX5_place_62 : decode cX5_place 62 = .ok (.imul, 1) := by decide +kernel
theorem dX5_place_63 : decode cX5_place 63 = .ok (.iload_n 2, 1) := by decide +kernel
theorem dX5_place_64 : decode cX5_place 64 = .ok (.iadd, 1) := by decide +kernel
theorem dX5_place_65 : decode cX5_place 65 = .ok (.iaload, 1) := by decide +kernel
theorem dX5_place_66 : decode cX5_place 66 = .ok (.istore 4, 2) := by decide +kernel
theorem dX5_place_68 : decode cX5_place 68 = .ok (.aload_n 0, 1) := by decide +kernel
theorem dX5_place_69 : decode cX5_place 69 = .ok (.getfield 13, 3) := by decide +kernel
theorem dX5_place_72 : decode cX5_place 72 = .ok (.iconst 3, 1) := by decide +kernel
theorem dX5_place_73 : decode cX5_place 73 = .ok (.iload_n 1, 1) := by decide +kernel
theorem dX5_place_74 : decode cX5_place 74 = .ok (.imul, 1) := by decide +kernel
theorem dX5_place_75 : decode cX5_place 75 = .ok (.iload_n 2, 1) := by decide +kernel
theorem dX5_place_76 : decode cX5_place 76 = .ok (.iadd, 1) := by decide +kernel
theorem dX5_place_77 : decode cX5_place 77 = .ok (.iload_n 3, 1) := by decide +kernel
theorem dX5_place_78 : decode cX5_place 78 = .ok (.iastore, 1) := by decide +kernel
theorem dX5_place_79 : decode cX5_place 79 = .ok (.iload 4, 2) := by decide +kernel
theorem dX5_place_81 : decode cX5_place 81 = .ok (.ireturn, 1) := by decide +kernel
theorem dX5_limit_0 : decode cX5_limit 0 = .ok (.aload_n 0, 1) := by decide +kernel
theorem dX5_limit_1 : decode cX5_limit 1 = .ok (.invokevirtual 41, 3) := by decide +kernel
theorem dX5_limit_4 : decode cX5_limit 4 = .ok (.ifCond .eq 6, 3) := by decide +kernel
theorem dX5_limit_7 : decode cX5_limit 7 = .ok (.bipush (-3), 2) := by decide +kernel
theorem dX5_limit_9 : decode cX5_limit 9 = .ok (.ireturn, 1) := by decide +kernel
theorem dX5_limit_10 : decode cX5_limit 10 = .ok (.iload_n 1, 1) := by decide +kernel
theorem dX5_limit_11 : decode cX5_limit 11 = .ok (.invokestatic 52, 3) := by decide +kernel
theorem dX5_limit_14 : decode cX5_limit 14 = .ok (.ifCond .eq 13, 3) := by decide +kernel
theorem dX5_limit_17 : decode cX5_limit 17 = .ok (.iload_n 2, 1) := by decide +kernel
theorem dX5_limit_18 : decode cX5_limit 18 = .ok (.iconst 0, 1) := by decide +kernel
theorem dX5_limit_19 : decode cX5_limit 19 = .ok (.bipush 99, 2) := by decide +kernel
theorem dX5_limit_21 : decode cX5_limit 21 = .ok (.invokestatic 37, 3) := by decide +kernel
theorem dX5_limit_24 : decode cX5_limit 24 = .ok (.ifCond .ne 5, 3) := by decide +kernel
theorem dX5_limit_27 : decode cX5_limit 27 = .ok (.iconst (-1), 1) := by decide +kernel
theorem dX5_limit_28 : decode cX5_limit 28 = .ok (.ireturn, 1) := by decide +kernel
theorem dX5_limit_29 : decode cX5_limit 29 = .ok (.aload_n 0, 1) := by decide +kernel
theorem dX5_limit_30 : decode cX5_limit 30 = .ok (.getfield 16, 3) := by decide +kernel
theorem dX5_limit_33 : decode cX5_limit 33 = .ok (.iconst 3, 1) := by decide +kernel
theorem dX5_limit_34 : decode cX5_limit 34 = .ok (.iload_n 1, 1) := by decide +kernel
theorem dX5_limit_35 : decode cX5_limit 35 = .ok (.imul, 1) := by decide +kernel
theorem dX5_limit_36 : decode cX5_limit 36 = .ok (.iaload, 1) := by decide +kernel
theorem dX5_limit_37 : decode cX5_limit 37 = .ok (.istore_n 3, 1) := by decide +kernel
theorem dX5_limit_38 : decode cX5_limit 38 = .ok (.aload_n 0, 1) := by decide +kernel
theorem dX5_limit_39 : decode cX5_limit 39 = .ok (.getfield 16, 3) := by decide +kernel
theorem dX5_limit_42 : decode cX5_limit 42 = .ok (.iconst 3, 1) := by decide +kernel
theorem dX5_limit_43 : decode cX5_limit 43 = .ok (.iload_n 1, 1) := by decide +kernel
theorem dX5_limit_44 : decode cX5_limit 44 = .ok (.imul, 1) := by decide +kernel
theorem dX5_limit_45 : decode cX5_limit 45 = .ok (.iload_n 2, 1) := by decide +kernel
theorem dX5_limit_46 : decode cX5_limit 46 = .ok (.iastore, 1) := by decide +kernel
theorem dX5_limit_47 : decode cX5_limit 47 = .ok (.iload_n 3, 1) := by decide +kernel
theorem dX5_limit_48 : decode cX5_limit 48 = .ok (.ireturn, 1) := by decide +kernel
theorem dX5_clash_0 : decode cX5_clash 0 = .ok (.aload_n 0, 1) := by decide +kernel
theorem dX5_clash_1 : decode cX5_clash 1 = .ok (.invokevirtual 41, 3) := by decide +kernel
theorem dX5_clash_4 : decode cX5_clash 4 = .ok (.ifCond .eq 6, 3) := by decide +kernel
theorem dX5_clash_7 : decode cX5_clash 7 = .ok (.bipush (-3), 2) := by decide +kernel
theorem dX5_clash_9 : decode cX5_clash 9 = .ok (.ireturn, 1) := by decide +kernel
theorem dX5_clash_10 : decode cX5_clash 10 = .ok (.iload_n 1, 1) := by decide +kernel
theorem dX5_clash_11 : decode cX5_clash 11 = .ok (.iconst 0, 1) := by decide +kernel
theorem dX5_clash_12 : decode cX5_clash 12 = .ok (.iconst 3, 1) := by decide +kernel
theorem dX5_clash_13 : decode cX5_clash 13 = .ok (.invokestatic 37, 3) := by decide +kernel
theorem dX5_clash_16 : decode cX5_clash 16 = .ok (.ifCond .eq 12, 3) := by decide +kernel
theorem dX5_clash_19 : decode cX5_clash 19 = .ok (.iload_n 2, 1) := by decide +kernel
theorem dX5_clash_20 : decode cX5_clash 20 = .ok (.iconst 0, 1) := by decide +kernel
theorem dX5_clash_21 : decode cX5_clash 21 = .ok (.iconst 3, 1) := by decide +kernel
theorem dX5_clash_22 : decode cX5_clash 22 = .ok (.invokestatic 37, 3) := by decide +kernel
theorem dX5_clash_25 : decode cX5_clash 25 = .ok (.ifCond .ne 5, 3) := by decide +kernel
theorem dX5_clash_28 : decode cX5_clash 28 = .ok (.iconst (-1), 1) := by decide +kernel
theorem dX5_clash_29 : decode cX5_clash 29 = .ok (.ireturn, 1) := by decide +kernel
theorem dX5_clash_30 : decode cX5_clash 30 = .ok (.iload_n 3, 1) := by decide +kernel
theorem dX5_clash_31 : decode cX5_clash 31 = .ok (.ifCond .eq 7, 3) := by decide +kernel
theorem dX5_clash_34 : decode cX5_clash 34 = .ok (.iconst 1, 1) := by decide +kernel
theorem dX5_clash_35 : decode cX5_clash 35 = .ok (.goto 4, 3) := by decide +kernel
theorem dX5_clash_38 : decode cX5_clash 38 = .ok (.iconst 0, 1) := by decide +kernel
theorem dX5_clash_39 : decode cX5_clash 39 = .ok (.istore 4, 2) := by decide +kernel
theorem dX5_clash_41 : decode cX5_clash 41 = .ok (.aload_n 0, 1) := by decide +kernel
theorem dX5_clash_42 : decode cX5_clash 42 = .ok (.getfield 19, 3) := by decide +kernel
theorem dX5_clash_45 : decode cX5_clash 45 = .ok (.iconst 4, 1) := by decide +kernel
theorem dX5_clash_46 : decode cX5_clash 46 = .ok (.iload_n 1, 1) := by decide +kernel
theorem dX5_clash_47 : decode cX5_clash 47 = .ok (.imul, 1) := by decide +kernel
theorem dX5_clash_48 : decode cX5_clash 48 = .ok (.iload_n 2, 1) := by decide +kernel
theorem dX5_clash_49 : decode cX5_clash 49 = .ok (.iadd, 1) := by decide +kernel
theorem dX5_clash_50 : decode cX5_clash 50 = .ok (.iaload, 1) := by decide +kernel
theorem dX5_clash_51 : decode cX5_clash 51 = .ok (.iload 4, 2) := by decide +kernel
theorem dX5_clash_53 : decode cX5_clash 53 = .ok (.if_icmp .ne 7, 3) := by decide +kernel
theorem dX5_clash_56 : decode cX5_clash 56 = .ok (.iconst 0, 1) := by decide +kernel
theorem dX5_clash_57 : decode cX5_clash 57 = .ok (.goto 4, 3) := by decide +kernel
theorem dX5_clash_60 : decode cX5_clash 60 = .ok (.iconst 1, 1) := by decide +kernel
theorem dX5_clash_61 : decode cX5_clash 61 = .ok (.istore 5, 2) := by decide +kernel
theorem dX5_clash_63 : decode cX5_clash 63 = .ok (.aload_n 0, 1) := by decide +kernel
theorem dX5_clash_64 : decode cX5_clash 64 = .ok (.getfield 19, 3) := by decide +kernel
theorem dX5_clash_67 : decode cX5_clash 67 = .ok (.iconst 4, 1) := by decide +kernel
theorem dX5_clash_68 : decode cX5_clash 68 = .ok (.iload_n 1, 1) := by decide +kernel
theorem dX5_clash_69 : decode cX5_clash 69 = .ok (.imul, 1) := by decide +kernel
theorem dX5_clash_70 : decode cX5_clash 70 = .ok (.iload_n 2, 1) := by decide +kernel
theorem dX5_clash_71 : decode cX5_clash 71 = .ok (.iadd, 1) := by decide +kernel
theorem dX5_clash_72 : decode cX5_clash 72 = .ok (.iload 4, 2) := by decide +kernel
theorem dX5_clash_74 : decode cX5_clash 74 = .ok (.iastore, 1) := by decide +kernel
theorem dX5_clash_75 : decode cX5_clash 75 = .ok (.aload_n 0, 1) := by decide +kernel
theorem dX5_clash_76 : decode cX5_clash 76 = .ok (.getfield 19, 3) := by decide +kernel
theorem dX5_clash_79 : decode cX5_clash 79 = .ok (.iconst 4, 1) := by decide +kernel
theorem dX5_clash_80 : decode cX5_clash 80 = .ok (.iload_n 2, 1) := by decide +kernel
theorem dX5_clash_81 : decode cX5_clash 81 = .ok (.imul, 1) := by decide +kernel
theorem dX5_clash_82 : decode cX5_clash 82 = .ok (.iload_n 1, 1) := by decide +kernel
theorem dX5_clash_83 : decode cX5_clash 83 = .ok (.iadd, 1) := by decide +kernel
theorem dX5_clash_84 : decode cX5_clash 84 = .ok (.iload 4, 2) := by decide +kernel
theorem dX5_clash_86 : decode cX5_clash 86 = .ok (.iastore, 1) := by decide +kernel
theorem dX5_clash_87 : decode cX5_clash 87 = .ok (.iload 5, 2) := by decide +kernel
theorem dX5_clash_89 : decode cX5_clash 89 = .ok (.ireturn, 1) := by decide +kernel
theorem dX5_rule_0 : decode cX5_rule 0 = .ok (.aload_n 0, 1) := by decide +kernel
theorem dX5_rule_1 : decode cX5_rule 1 = .ok (.invokevirtual 41, 3) := by decide +kernel
theorem dX5_rule_4 : decode cX5_rule 4 = .ok (.ifCond .eq 6, 3) := by decide +kernel
theorem dX5_rule_7 : decode cX5_rule 7 = .ok (.bipush (-3), 2) := by decide +kernel
theorem dX5_rule_9 : decode cX5_rule 9 = .ok (.ireturn, 1) := by decide +kernel
theorem dX5_rule_10 : decode cX5_rule 10 = .ok (.iload_n 1, 1) := by decide +kernel
theorem dX5_rule_11 : decode cX5_rule 11 = .ok (.iconst 0, 1) := by decide +kernel
theorem dX5_rule_12 : decode cX5_rule 12 = .ok (.iconst 1, 1) := by decide +kernel
theorem dX5_rule_13 : decode cX5_rule 13 = .ok (.invokestatic 37, 3) := by decide +kernel
theorem dX5_rule_16 : decode cX5_rule 16 = .ok (.ifCond .eq 21, 3) := by decide +kernel
theorem dX5_rule_19 : decode cX5_rule 19 = .ok (.iload_n 2, 1) := by decide +kernel
theorem dX5_rule_20 : decode cX5_rule 20 = .ok (.iconst 0, 1) := by decide +kernel
theorem dX5_rule_21 : decode cX5_rule 21 = .ok (.iload_n 1, 1) := by decide +kernel
theorem dX5_rule_22 : decode cX5_rule 22 = .ok (.ifCond .ne 7, 3) := by decide +kernel
theorem dX5_rule_25 : decode cX5_rule 25 = .ok (.iconst 3, 1) := by decide +kernel
theorem dX5_rule_26 : decode cX5_rule 26 = .ok (.goto 5, 3) := by decide +kernel
theorem dX5_rule_29 : decode cX5_rule 29 = .ok (.bipush 50, 2) := by decide +kernel
theorem dX5_rule_31 : decode cX5_rule 31 = .ok (.invokestatic 37, 3) := by decide +kernel
theorem dX5_rule_34 : decode cX5_rule 34 = .ok (.ifCond .ne 5, 3) := by decide +kernel
theorem dX5_rule_37 : decode cX5_rule 37 = .ok (.iconst (-1), 1) := by decide +kernel
theorem dX5_rule_38 : decode cX5_rule 38 = .ok (.ireturn, 1) := by decide +kernel
theorem dX5_rule_39 : decode cX5_rule 39 = .ok (.aload_n 0, 1) := by decide +kernel
theorem dX5_rule_40 : decode cX5_rule 40 = .ok (.getfield 7, 3) := by decide +kernel
theorem dX5_rule_43 : decode cX5_rule 43 = .ok (.iconst 5, 1) := by decide +kernel
theorem dX5_rule_44 : decode cX5_rule 44 = .ok (.iload_n 1, 1) := by decide +kernel
theorem dX5_rule_45 : decode cX5_rule 45 = .ok (.iadd, 1) := by decide +kernel
theorem dX5_rule_46 : decode cX5_rule 46 = .ok (.iaload, 1) := by decide +kernel
theorem dX5_rule_47 : decode cX5_rule 47 = .ok (.istore_n 3, 1) := by decide +kernel
theorem dX5_rule_48 : decode cX5_rule 48 = .ok (.aload_n 0, 1) := by decide +kernel
theorem dX5_rule_49 : decode cX5_rule 49 = .ok (.getfield 7, 3) := by decide +kernel
theorem dX5_rule_52 : decode cX5_rule 52 = .ok (.iconst 5, 1) := by decide +kernel
theorem dX5_rule_53 : decode cX5_rule 53 = .ok (.iload_n 1, 1) := by decide +kernel
theorem dX5_rule_54 : decode cX5_rule 54 = .ok (.iadd, 1) := by decide +kernel
theorem dX5_rule_55 : decode cX5_rule 55 = .ok (.iload_n 2, 1) := by decide +kernel
theorem dX5_rule_56 : decode cX5_rule 56 = .ok (.iastore, 1) := by decide +kernel
theorem dX5_rule_57 : decode cX5_rule 57 = .ok (.iload_n 3, 1) := by decide +kernel
theorem dX5_rule_58 : decode cX5_rule 58 = .ok (.ireturn, 1) := by decide +kernel
theorem dX5_isTold_0 : decode cX5_isTold 0 = .ok (.iload_n 0, 1) := by decide +kernel
theorem dX5_isTold_1 : decode cX5_isTold 1 = .ok (.tableswitch 73 0 4 #[35, 42, 49, 57, 65], 35) := by decide +kernel
theorem dX5_isTold_36 : decode cX5_isTold 36 = .ok (.iload_n 1, 1) := by decide +kernel
theorem dX5_isTold_37 : decode cX5_isTold 37 = .ok (.iconst 0, 1) := by decide +kernel
theorem dX5_isTold_38 : decode cX5_isTold 38 = .ok (.iconst 5, 1) := by decide +kernel
theorem dX5_isTold_39 : decode cX5_isTold 39 = .ok (.invokestatic 37, 3) := by decide +kernel
theorem dX5_isTold_42 : decode cX5_isTold 42 = .ok (.ireturn, 1) := by decide +kernel
theorem dX5_isTold_43 : decode cX5_isTold 43 = .ok (.iload_n 1, 1) := by decide +kernel
theorem dX5_isTold_44 : decode cX5_isTold 44 = .ok (.iconst 0, 1) := by decide +kernel
theorem dX5_isTold_45 : decode cX5_isTold 45 = .ok (.iconst 3, 1) := by decide +kernel
theorem dX5_isTold_46 : decode cX5_isTold 46 = .ok (.invokestatic 37, 3) := by decide +kernel
theorem dX5_isTold_49 : decode cX5_isTold 49 = .ok (.ireturn, 1) := by decide +kernel
theorem dX5_isTold_50 : decode cX5_isTold 50 = .ok (.iload_n 1, 1) := by decide +kernel
theorem dX5_isTold_51 : decode cX5_isTold 51 = .ok (.iconst 0, 1) := by decide +kernel
theorem dX5_isTold_52 : decode cX5_isTold 52 = .ok (.bipush 30, 2) := by decide +kernel
theorem dX5_isTold_54 : decode cX5_isTold 54 = .ok (.invokestatic 37, 3) := by decide +kernel
theorem dX5_isTold_57 : decode cX5_isTold 57 = .ok (.ireturn, 1) := by decide +kernel
theorem dX5_isTold_58 : decode cX5_isTold 58 = .ok (.iload_n 1, 1) := by decide +kernel
theorem dX5_isTold_59 : decode cX5_isTold 59 = .ok (.iconst 1, 1) := by decide +kernel
theorem dX5_isTold_60 : decode cX5_isTold 60 = .ok (.bipush 9, 2) := by decide +kernel
theorem dX5_isTold_62 : decode cX5_isTold 62 = .ok (.invokestatic 37, 3) := by decide +kernel
theorem dX5_isTold_65 : decode cX5_isTold 65 = .ok (.ireturn, 1) := by decide +kernel
theorem dX5_isTold_66 : decode cX5_isTold 66 = .ok (.iload_n 1, 1) := by decide +kernel
theorem dX5_isTold_67 : decode cX5_isTold 67 = .ok (.iconst 1, 1) := by decide +kernel
theorem dX5_isTold_68 : decode cX5_isTold 68 = .ok (.bipush 20, 2) := by decide +kernel
theorem dX5_isTold_70 : decode cX5_isTold 70 = .ok (.invokestatic 37, 3) := by decide +kernel
theorem dX5_isTold_73 : decode cX5_isTold 73 = .ok (.ireturn, 1) := by decide +kernel
theorem dX5_isTold_74 : decode cX5_isTold 74 = .ok (.iload_n 1, 1) := by decide +kernel
theorem dX5_isTold_75 : decode cX5_isTold 75 = .ok (.iconst 0, 1) := by decide +kernel
theorem dX5_isTold_76 : decode cX5_isTold 76 = .ok (.bipush 99, 2) := by decide +kernel
theorem dX5_isTold_78 : decode cX5_isTold 78 = .ok (.invokestatic 37, 3) := by decide +kernel
theorem dX5_isTold_81 : decode cX5_isTold 81 = .ok (.ireturn, 1) := by decide +kernel
theorem dX5_stall_0 : decode cX5_stall 0 = .ok (.aload_n 0, 1) := by decide +kernel
theorem dX5_stall_1 : decode cX5_stall 1 = .ok (.invokevirtual 41, 3) := by decide +kernel
theorem dX5_stall_4 : decode cX5_stall 4 = .ok (.ifCond .eq 6, 3) := by decide +kernel
theorem dX5_stall_7 : decode cX5_stall 7 = .ok (.bipush (-3), 2) := by decide +kernel
theorem dX5_stall_9 : decode cX5_stall 9 = .ok (.ireturn, 1) := by decide +kernel
theorem dX5_stall_10 : decode cX5_stall 10 = .ok (.iconst 0, 1) := by decide +kernel
theorem dX5_stall_11 : decode cX5_stall 11 = .ok (.iload_n 1, 1) := by decide +kernel
theorem dX5_stall_12 : decode cX5_stall 12 = .ok (.invokestatic 55, 3) := by decide +kernel
theorem dX5_stall_15 : decode cX5_stall 15 = .ok (.ifCond .eq 46, 3) := by decide +kernel
theorem dX5_stall_18 : decode cX5_stall 18 = .ok (.iconst 1, 1) := by decide +kernel
theorem dX5_stall_19 : decode cX5_stall 19 = .ok (.iload_n 2, 1) := by decide +kernel
theorem dX5_stall_20 : decode cX5_stall 20 = .ok (.invokestatic 55, 3) := by decide +kernel
theorem dX5_stall_23 : decode cX5_stall 23 = .ok (.ifCond .eq 38, 3) := by decide +kernel
theorem dX5_stall_26 : decode cX5_stall 26 = .ok (.iconst 2, 1) := by decide +kernel
theorem dX5_stall_27 : decode cX5_stall 27 = .ok (.iload_n 3, 1) := by decide +kernel
theorem dX5_stall_28 : decode cX5_stall 28 = .ok (.invokestatic 55, 3) := by decide +kernel
theorem dX5_stall_31 : decode cX5_stall 31 = .ok (.ifCond .eq 30, 3) := by decide +kernel
theorem dX5_stall_34 : decode cX5_stall 34 = .ok (.iconst 3, 1) := by decide +kernel
theorem dX5_stall_35 : decode cX5_stall 35 = .ok (.iload 4, 2) := by decide +kernel
theorem dX5_stall_37 : decode cX5_stall 37 = .ok (.invokestatic 55, 3) := by decide +kernel
theorem dX5_stall_40 : decode cX5_stall 40 = .ok (.ifCond .eq 21, 3) := by decide +kernel
theorem dX5_stall_43 : decode cX5_stall 43 = .ok (.iconst 4, 1) := by decide +kernel
theorem dX5_stall_44 : decode cX5_stall 44 = .ok (.iload 5, 2) := by decide +kernel
theorem dX5_stall_46 : decode cX5_stall 46 = .ok (.invokestatic 55, 3) := by decide +kernel
theorem dX5_stall_49 : decode cX5_stall 49 = .ok (.ifCond .eq 12, 3) := by decide +kernel
theorem dX5_stall_52 : decode cX5_stall 52 = .ok (.iconst 5, 1) := by decide +kernel
theorem dX5_stall_53 : decode cX5_stall 53 = .ok (.iload 6, 2) := by decide +kernel
theorem dX5_stall_55 : decode cX5_stall 55 = .ok (.invokestatic 55, 3) := by decide +kernel
theorem dX5_stall_58 : decode cX5_stall 58 = .ok (.ifCond .ne 5, 3) := by decide +kernel
theorem dX5_stall_61 : decode cX5_stall 61 = .ok (.iconst (-1), 1) := by decide +kernel
theorem dX5_stall_62 : decode cX5_stall 62 = .ok (.ireturn, 1) := by decide +kernel
theorem dX5_stall_63 : decode cX5_stall 63 = .ok (.aload_n 0, 1) := by decide +kernel
theorem dX5_stall_64 : decode cX5_stall 64 = .ok (.getfield 7, 3) := by decide +kernel
theorem dX5_stall_67 : decode cX5_stall 67 = .ok (.iconst 1, 1) := by decide +kernel
theorem dX5_stall_68 : decode cX5_stall 68 = .ok (.iaload, 1) := by decide +kernel
theorem dX5_stall_69 : decode cX5_stall 69 = .ok (.iconst 5, 1) := by decide +kernel
theorem dX5_stall_70 : decode cX5_stall 70 = .ok (.if_icmp .ne 6, 3) := by decide +kernel
theorem dX5_stall_73 : decode cX5_stall 73 = .ok (.bipush (-2), 2) := by decide +kernel
theorem dX5_stall_75 : decode cX5_stall 75 = .ok (.ireturn, 1) := by decide +kernel
theorem dX5_stall_76 : decode cX5_stall 76 = .ok (.bipush 11, 2) := by decide +kernel
theorem dX5_stall_78 : decode cX5_stall 78 = .ok (.aload_n 0, 1) := by decide +kernel
theorem dX5_stall_79 : decode cX5_stall 79 = .ok (.getfield 7, 3) := by decide +kernel
theorem dX5_stall_82 : decode cX5_stall 82 = .ok (.iconst 1, 1) := by decide +kernel
theorem dX5_stall_83 : decode cX5_stall 83 = .ok (.iaload, 1) := by decide +kernel
theorem dX5_stall_84 : decode cX5_stall 84 = .ok (.imul, 1) := by decide +kernel
theorem dX5_stall_85 : decode cX5_stall 85 = .ok (.istore 7, 2) := by decide +kernel
theorem dX5_stall_87 : decode cX5_stall 87 = .ok (.aload_n 0, 1) := by decide +kernel
theorem dX5_stall_88 : decode cX5_stall 88 = .ok (.getfield 22, 3) := by decide +kernel
theorem dX5_stall_91 : decode cX5_stall 91 = .ok (.iload 7, 2) := by decide +kernel
theorem dX5_stall_93 : decode cX5_stall 93 = .ok (.iload_n 1, 1) := by decide +kernel
theorem dX5_stall_94 : decode cX5_stall 94 = .ok (.iastore, 1) := by decide +kernel
theorem dX5_stall_95 : decode cX5_stall 95 = .ok (.aload_n 0, 1) := by decide +kernel
theorem dX5_stall_96 : decode cX5_stall 96 = .ok (.getfield 22, 3) := by decide +kernel
theorem dX5_stall_99 : decode cX5_stall 99 = .ok (.iload 7, 2) := by decide +kernel
theorem dX5_stall_101 : decode cX5_stall 101 = .ok (.iconst 1, 1) := by decide +kernel
theorem dX5_stall_102 : decode cX5_stall 102 = .ok (.iadd, 1) := by decide +kernel
theorem dX5_stall_103 : decode cX5_stall 103 = .ok (.iload_n 2, 1) := by decide +kernel
theorem dX5_stall_104 : decode cX5_stall 104 = .ok (.iastore, 1) := by decide +kernel
theorem dX5_stall_105 : decode cX5_stall 105 = .ok (.aload_n 0, 1) := by decide +kernel
theorem dX5_stall_106 : decode cX5_stall 106 = .ok (.getfield 22, 3) := by decide +kernel
theorem dX5_stall_109 : decode cX5_stall 109 = .ok (.iload 7, 2) := by decide +kernel
theorem dX5_stall_111 : decode cX5_stall 111 = .ok (.iconst 2, 1) := by decide +kernel
theorem dX5_stall_112 : decode cX5_stall 112 = .ok (.iadd, 1) := by decide +kernel
theorem dX5_stall_113 : decode cX5_stall 113 = .ok (.iload_n 3, 1) := by decide +kernel
theorem dX5_stall_114 : decode cX5_stall 114 = .ok (.iastore, 1) := by decide +kernel
theorem dX5_stall_115 : decode cX5_stall 115 = .ok (.aload_n 0, 1) := by decide +kernel
theorem dX5_stall_116 : decode cX5_stall 116 = .ok (.getfield 22, 3) := by decide +kernel
theorem dX5_stall_119 : decode cX5_stall 119 = .ok (.iload 7, 2) := by decide +kernel
theorem dX5_stall_121 : decode cX5_stall 121 = .ok (.iconst 3, 1) := by decide +kernel
theorem dX5_stall_122 : decode cX5_stall 122 = .ok (.iadd, 1) := by decide +kernel
theorem dX5_stall_123 : decode cX5_stall 123 = .ok (.iload 4, 2) := by decide +kernel
theorem dX5_stall_125 : decode cX5_stall 125 = .ok (.iastore, 1) := by decide +kernel
theorem dX5_stall_126 : decode cX5_stall 126 = .ok (.aload_n 0, 1) := by decide +kernel
theorem dX5_stall_127 : decode cX5_stall 127 = .ok (.getfield 22, 3) := by decide +kernel
theorem dX5_stall_130 : decode cX5_stall 130 = .ok (.iload 7, 2) := by decide +kernel
theorem dX5_stall_132 : decode cX5_stall 132 = .ok (.iconst 4, 1) := by decide +kernel
theorem dX5_stall_133 : decode cX5_stall 133 = .ok (.iadd, 1) := by decide +kernel
theorem dX5_stall_134 : decode cX5_stall 134 = .ok (.iload 5, 2) := by decide +kernel
theorem dX5_stall_136 : decode cX5_stall 136 = .ok (.iastore, 1) := by decide +kernel
theorem dX5_stall_137 : decode cX5_stall 137 = .ok (.aload_n 0, 1) := by decide +kernel
theorem dX5_stall_138 : decode cX5_stall 138 = .ok (.getfield 22, 3) := by decide +kernel
theorem dX5_stall_141 : decode cX5_stall 141 = .ok (.iload 7, 2) := by decide +kernel
theorem dX5_stall_143 : decode cX5_stall 143 = .ok (.iconst 5, 1) := by decide +kernel
theorem dX5_stall_144 : decode cX5_stall 144 = .ok (.iadd, 1) := by decide +kernel
theorem dX5_stall_145 : decode cX5_stall 145 = .ok (.iload 6, 2) := by decide +kernel
theorem dX5_stall_147 : decode cX5_stall 147 = .ok (.iastore, 1) := by decide +kernel
theorem dX5_stall_148 : decode cX5_stall 148 = .ok (.aload_n 0, 1) := by decide +kernel
theorem dX5_stall_149 : decode cX5_stall 149 = .ok (.getfield 22, 3) := by decide +kernel
theorem dX5_stall_152 : decode cX5_stall 152 = .ok (.iload 7, 2) := by decide +kernel
theorem dX5_stall_154 : decode cX5_stall 154 = .ok (.bipush 6, 2) := by decide +kernel
theorem dX5_stall_156 : decode cX5_stall 156 = .ok (.iadd, 1) := by decide +kernel
theorem dX5_stall_157 : decode cX5_stall 157 = .ok (.iconst (-1), 1) := by decide +kernel
theorem dX5_stall_158 : decode cX5_stall 158 = .ok (.iastore, 1) := by decide +kernel
theorem dX5_stall_159 : decode cX5_stall 159 = .ok (.aload_n 0, 1) := by decide +kernel
theorem dX5_stall_160 : decode cX5_stall 160 = .ok (.getfield 22, 3) := by decide +kernel
theorem dX5_stall_163 : decode cX5_stall 163 = .ok (.iload 7, 2) := by decide +kernel
theorem dX5_stall_165 : decode cX5_stall 165 = .ok (.bipush 7, 2) := by decide +kernel
theorem dX5_stall_167 : decode cX5_stall 167 = .ok (.iadd, 1) := by decide +kernel
theorem dX5_stall_168 : decode cX5_stall 168 = .ok (.iconst 0, 1) := by decide +kernel
theorem dX5_stall_169 : decode cX5_stall 169 = .ok (.iastore, 1) := by decide +kernel
theorem dX5_stall_170 : decode cX5_stall 170 = .ok (.aload_n 0, 1) := by decide +kernel
theorem dX5_stall_171 : decode cX5_stall 171 = .ok (.getfield 22, 3) := by decide +kernel
theorem dX5_stall_174 : decode cX5_stall 174 = .ok (.iload 7, 2) := by decide +kernel
theorem dX5_stall_176 : decode cX5_stall 176 = .ok (.bipush 8, 2) := by decide +kernel
theorem dX5_stall_178 : decode cX5_stall 178 = .ok (.iadd, 1) := by decide +kernel
theorem dX5_stall_179 : decode cX5_stall 179 = .ok (.iconst 0, 1) := by decide +kernel
theorem dX5_stall_180 : decode cX5_stall 180 = .ok (.iastore, 1) := by decide +kernel
theorem dX5_stall_181 : decode cX5_stall 181 = .ok (.aload_n 0, 1) := by decide +kernel
theorem dX5_stall_182 : decode cX5_stall 182 = .ok (.getfield 22, 3) := by decide +kernel
theorem dX5_stall_185 : decode cX5_stall 185 = .ok (.iload 7, 2) := by decide +kernel
theorem dX5_stall_187 : decode cX5_stall 187 = .ok (.bipush 9, 2) := by decide +kernel
theorem dX5_stall_189 : decode cX5_stall 189 = .ok (.iadd, 1) := by decide +kernel
theorem dX5_stall_190 : decode cX5_stall 190 = .ok (.iconst 0, 1) := by decide +kernel
theorem dX5_stall_191 : decode cX5_stall 191 = .ok (.iastore, 1) := by decide +kernel
theorem dX5_stall_192 : decode cX5_stall 192 = .ok (.aload_n 0, 1) := by decide +kernel
theorem dX5_stall_193 : decode cX5_stall 193 = .ok (.getfield 22, 3) := by decide +kernel
theorem dX5_stall_196 : decode cX5_stall 196 = .ok (.iload 7, 2) := by decide +kernel
theorem dX5_stall_198 : decode cX5_stall 198 = .ok (.bipush 10, 2) := by decide +kernel
theorem dX5_stall_200 : decode cX5_stall 200 = .ok (.iadd, 1) := by decide +kernel
theorem dX5_stall_201 : decode cX5_stall 201 = .ok (.iconst (-1), 1) := by decide +kernel
theorem dX5_stall_202 : decode cX5_stall 202 = .ok (.iastore, 1) := by decide +kernel
theorem dX5_stall_203 : decode cX5_stall 203 = .ok (.aload_n 0, 1) := by decide +kernel
theorem dX5_stall_204 : decode cX5_stall 204 = .ok (.getfield 7, 3) := by decide +kernel
theorem dX5_stall_207 : decode cX5_stall 207 = .ok (.iconst 1, 1) := by decide +kernel
theorem dX5_stall_208 : decode cX5_stall 208 = .ok (.dup2, 1) := by decide +kernel
theorem dX5_stall_209 : decode cX5_stall 209 = .ok (.iaload, 1) := by decide +kernel
theorem dX5_stall_210 : decode cX5_stall 210 = .ok (.iconst 1, 1) := by decide +kernel
theorem dX5_stall_211 : decode cX5_stall 211 = .ok (.iadd, 1) := by decide +kernel
theorem dX5_stall_212 : decode cX5_stall 212 = .ok (.iastore, 1) := by decide +kernel
theorem dX5_stall_213 : decode cX5_stall 213 = .ok (.aload_n 0, 1) := by decide +kernel
theorem dX5_stall_214 : decode cX5_stall 214 = .ok (.getfield 7, 3) := by decide +kernel
theorem dX5_stall_217 : decode cX5_stall 217 = .ok (.iconst 1, 1) := by decide +kernel
theorem dX5_stall_218 : decode cX5_stall 218 = .ok (.iaload, 1) := by decide +kernel
theorem dX5_stall_219 : decode cX5_stall 219 = .ok (.iconst 1, 1) := by decide +kernel
theorem dX5_stall_220 : decode cX5_stall 220 = .ok (.isub, 1) := by decide +kernel
theorem dX5_stall_221 : decode cX5_stall 221 = .ok (.ireturn, 1) := by decide +kernel
theorem dX5_change_0 : decode cX5_change 0 = .ok (.aload_n 0, 1) := by decide +kernel
theorem dX5_change_1 : decode cX5_change 1 = .ok (.invokevirtual 41, 3) := by decide +kernel
theorem dX5_change_4 : decode cX5_change 4 = .ok (.ifCond .eq 6, 3) := by decide +kernel
theorem dX5_change_7 : decode cX5_change 7 = .ok (.bipush (-3), 2) := by decide +kernel
theorem dX5_change_9 : decode cX5_change 9 = .ok (.ireturn, 1) := by decide +kernel
theorem dX5_change_10 : decode cX5_change 10 = .ok (.aload_n 0, 1) := by decide +kernel
theorem dX5_change_11 : decode cX5_change 11 = .ok (.iload_n 1, 1) := by decide +kernel
theorem dX5_change_12 : decode cX5_change 12 = .ok (.invokevirtual 59, 3) := by decide +kernel
theorem dX5_change_15 : decode cX5_change 15 = .ok (.ifCond .eq 20, 3) := by decide +kernel
theorem dX5_change_18 : decode cX5_change 18 = .ok (.iload_n 2, 1) := by decide +kernel
theorem dX5_change_19 : decode cX5_change 19 = .ok (.iconst 0, 1) := by decide +kernel
theorem dX5_change_20 : decode cX5_change 20 = .ok (.iconst 5, 1) := by decide +kernel
theorem dX5_change_21 : decode cX5_change 21 = .ok (.invokestatic 37, 3) := by decide +kernel
theorem dX5_change_24 : decode cX5_change 24 = .ok (.ifCond .eq 11, 3) := by decide +kernel
theorem dX5_change_27 : decode cX5_change 27 = .ok (.iload_n 2, 1) := by decide +kernel
theorem dX5_change_28 : decode cX5_change 28 = .ok (.iload_n 3, 1) := by decide +kernel
theorem dX5_change_29 : decode cX5_change 29 = .ok (.invokestatic 55, 3) := by decide +kernel
theorem dX5_change_32 : decode cX5_change 32 = .ok (.ifCond .ne 5, 3) := by decide +kernel
theorem dX5_change_35 : decode cX5_change 35 = .ok (.iconst (-1), 1) := by decide +kernel
theorem dX5_change_36 : decode cX5_change 36 = .ok (.ireturn, 1) := by decide +kernel
theorem dX5_change_37 : decode cX5_change 37 = .ok (.aload_n 0, 1) := by decide +kernel
theorem dX5_change_38 : decode cX5_change 38 = .ok (.getfield 22, 3) := by decide +kernel
theorem dX5_change_41 : decode cX5_change 41 = .ok (.bipush 11, 2) := by decide +kernel
theorem dX5_change_43 : decode cX5_change 43 = .ok (.iload_n 1, 1) := by decide +kernel
theorem dX5_change_44 : decode cX5_change 44 = .ok (.imul, 1) := by decide +kernel
theorem dX5_change_45 : decode cX5_change 45 = .ok (.iload_n 2, 1) := by decide +kernel
theorem dX5_change_46 : decode cX5_change 46 = .ok (.iadd, 1) := by decide +kernel
theorem dX5_change_47 : decode cX5_change 47 = .ok (.iaload, 1) := by decide +kernel
theorem dX5_change_48 : decode cX5_change 48 = .ok (.istore 4, 2) := by decide +kernel
theorem dX5_change_50 : decode cX5_change 50 = .ok (.aload_n 0, 1) := by decide +kernel
theorem dX5_change_51 : decode cX5_change 51 = .ok (.getfield 22, 3) := by decide +kernel
theorem dX5_change_54 : decode cX5_change 54 = .ok (.bipush 11, 2) := by decide +kernel
theorem dX5_change_56 : decode cX5_change 56 = .ok (.iload_n 1, 1) := by decide +kernel
theorem dX5_change_57 : decode cX5_change 57 = .ok (.imul, 1) := by decide +kernel
theorem dX5_change_58 : decode cX5_change 58 = .ok (.iload_n 2, 1) := by decide +kernel
theorem dX5_change_59 : decode cX5_change 59 = .ok (.iadd, 1) := by decide +kernel
theorem dX5_change_60 : decode cX5_change 60 = .ok (.iload_n 3, 1) := by decide +kernel
theorem dX5_change_61 : decode cX5_change 61 = .ok (.iastore, 1) := by decide +kernel
theorem dX5_change_62 : decode cX5_change 62 = .ok (.iload 4, 2) := by decide +kernel
theorem dX5_change_64 : decode cX5_change 64 = .ok (.ireturn, 1) := by decide +kernel
theorem dX5_away_0 : decode cX5_away 0 = .ok (.iload_n 0, 1) := by decide +kernel
theorem dX5_away_1 : decode cX5_away 1 = .ok (.iload_n 1, 1) := by decide +kernel
theorem dX5_away_2 : decode cX5_away 2 = .ok (.if_icmp .ge 9, 3) := by decide +kernel
theorem dX5_away_5 : decode cX5_away 5 = .ok (.iload_n 1, 1) := by decide +kernel
theorem dX5_away_6 : decode cX5_away 6 = .ok (.iload_n 0, 1) := by decide +kernel
theorem dX5_away_7 : decode cX5_away 7 = .ok (.isub, 1) := by decide +kernel
theorem dX5_away_8 : decode cX5_away 8 = .ok (.goto 6, 3) := by decide +kernel
theorem dX5_away_11 : decode cX5_away 11 = .ok (.iload_n 0, 1) := by decide +kernel
theorem dX5_away_12 : decode cX5_away 12 = .ok (.iload_n 1, 1) := by decide +kernel
theorem dX5_away_13 : decode cX5_away 13 = .ok (.isub, 1) := by decide +kernel
theorem dX5_away_14 : decode cX5_away 14 = .ok (.ireturn, 1) := by decide +kernel
theorem dX5_fits_0 : decode cX5_fits 0 = .ok (.aload_n 0, 1) := by decide +kernel
theorem dX5_fits_1 : decode cX5_fits 1 = .ok (.getfield 31, 3) := by decide +kernel
theorem dX5_fits_4 : decode cX5_fits 4 = .ok (.iload_n 1, 1) := by decide +kernel
theorem dX5_fits_5 : decode cX5_fits 5 = .ok (.iaload, 1) := by decide +kernel
theorem dX5_fits_6 : decode cX5_fits 6 = .ok (.istore_n 3, 1) := by decide +kernel
theorem dX5_fits_7 : decode cX5_fits 7 = .ok (.aload_n 0, 1) := by decide +kernel
theorem dX5_fits_8 : decode cX5_fits 8 = .ok (.getfield 7, 3) := by decide +kernel
theorem dX5_fits_11 : decode cX5_fits 11 = .ok (.iconst 0, 1) := by decide +kernel
theorem dX5_fits_12 : decode cX5_fits 12 = .ok (.iaload, 1) := by decide +kernel
theorem dX5_fits_13 : decode cX5_fits 13 = .ok (.istore 4, 2) := by decide +kernel
theorem dX5_fits_15 : decode cX5_fits 15 = .ok (.iload_n 3, 1) := by decide +kernel
theorem dX5_fits_16 : decode cX5_fits 16 = .ok (.iload 4, 2) := by decide +kernel
theorem dX5_fits_18 : decode cX5_fits 18 = .ok (.if_icmp .ne 5, 3) := by decide +kernel
theorem dX5_fits_21 : decode cX5_fits 21 = .ok (.iconst 1, 1) := by decide +kernel
theorem dX5_fits_22 : decode cX5_fits 22 = .ok (.ireturn, 1) := by decide +kernel
theorem dX5_fits_23 : decode cX5_fits 23 = .ok (.bipush 11, 2) := by decide +kernel
theorem dX5_fits_25 : decode cX5_fits 25 = .ok (.iload_n 1, 1) := by decide +kernel
theorem dX5_fits_26 : decode cX5_fits 26 = .ok (.imul, 1) := by decide +kernel
theorem dX5_fits_27 : decode cX5_fits 27 = .ok (.istore 5, 2) := by decide +kernel
theorem dX5_fits_29 : decode cX5_fits 29 = .ok (.aload_n 0, 1) := by decide +kernel
theorem dX5_fits_30 : decode cX5_fits 30 = .ok (.getfield 22, 3) := by decide +kernel
theorem dX5_fits_33 : decode cX5_fits 33 = .ok (.iload 5, 2) := by decide +kernel
theorem dX5_fits_35 : decode cX5_fits 35 = .ok (.iconst 5, 1) := by decide +kernel
theorem dX5_fits_36 : decode cX5_fits 36 = .ok (.iadd, 1) := by decide +kernel
theorem dX5_fits_37 : decode cX5_fits 37 = .ok (.iaload, 1) := by decide +kernel
theorem dX5_fits_38 : decode cX5_fits 38 = .ok (.iload_n 2, 1) := by decide +kernel
theorem dX5_fits_39 : decode cX5_fits 39 = .ok (.if_icmp .lt 20, 3) := by decide +kernel
theorem dX5_fits_42 : decode cX5_fits 42 = .ok (.aload_n 0, 1) := by decide +kernel
theorem dX5_fits_43 : decode cX5_fits 43 = .ok (.getfield 13, 3) := by decide +kernel
theorem dX5_fits_46 : decode cX5_fits 46 = .ok (.iconst 3, 1) := by decide +kernel
theorem dX5_fits_47 : decode cX5_fits 47 = .ok (.iload_n 3, 1) := by decide +kernel
theorem dX5_fits_48 : decode cX5_fits 48 = .ok (.imul, 1) := by decide +kernel
theorem dX5_fits_49 : decode cX5_fits 49 = .ok (.iconst 2, 1) := by decide +kernel
theorem dX5_fits_50 : decode cX5_fits 50 = .ok (.iadd, 1) := by decide +kernel
theorem dX5_fits_51 : decode cX5_fits 51 = .ok (.iaload, 1) := by decide +kernel
theorem dX5_fits_52 : decode cX5_fits 52 = .ok (.ifCond .ne 7, 3) := by decide +kernel
theorem dX5_fits_55 : decode cX5_fits 55 = .ok (.iconst 1, 1) := by decide +kernel
theorem dX5_fits_56 : decode cX5_fits 56 = .ok (.goto 4, 3) := by decide +kernel
theorem dX5_fits_59 : decode cX5_fits 59 = .ok (.iconst 0, 1) := by decide +kernel
theorem dX5_fits_60 : decode cX5_fits 60 = .ok (.istore 6, 2) := by decide +kernel
theorem dX5_fits_62 : decode cX5_fits 62 = .ok (.aload_n 0, 1) := by decide +kernel
theorem dX5_fits_63 : decode cX5_fits 63 = .ok (.getfield 13, 3) := by decide +kernel
theorem dX5_fits_66 : decode cX5_fits 66 = .ok (.iconst 3, 1) := by decide +kernel
theorem dX5_fits_67 : decode cX5_fits 67 = .ok (.iload_n 3, 1) := by decide +kernel
theorem dX5_fits_68 : decode cX5_fits 68 = .ok (.imul, 1) := by decide +kernel
theorem dX5_fits_69 : decode cX5_fits 69 = .ok (.iconst 1, 1) := by decide +kernel
theorem dX5_fits_70 : decode cX5_fits 70 = .ok (.iadd, 1) := by decide +kernel
theorem dX5_fits_71 : decode cX5_fits 71 = .ok (.iaload, 1) := by decide +kernel
theorem dX5_fits_72 : decode cX5_fits 72 = .ok (.istore 7, 2) := by decide +kernel
theorem dX5_fits_74 : decode cX5_fits 74 = .ok (.aload_n 0, 1) := by decide +kernel
theorem dX5_fits_75 : decode cX5_fits 75 = .ok (.getfield 22, 3) := by decide +kernel
theorem dX5_fits_78 : decode cX5_fits 78 = .ok (.iload 5, 2) := by decide +kernel
theorem dX5_fits_80 : decode cX5_fits 80 = .ok (.iconst 2, 1) := by decide +kernel
theorem dX5_fits_81 : decode cX5_fits 81 = .ok (.iadd, 1) := by decide +kernel
theorem dX5_fits_82 : decode cX5_fits 82 = .ok (.iaload, 1) := by decide +kernel
theorem dX5_fits_83 : decode cX5_fits 83 = .ok (.istore 8, 2) := by decide +kernel
theorem dX5_fits_85 : decode cX5_fits 85 = .ok (.iconst 0, 1) := by decide +kernel
theorem dX5_fits_86 : decode cX5_fits 86 = .ok (.istore 9, 2) := by decide +kernel
theorem dX5_fits_88 : decode cX5_fits 88 = .ok (.iload 9, 2) := by decide +kernel
theorem dX5_fits_90 : decode cX5_fits 90 = .ok (.iload_n 1, 1) := by decide +kernel
theorem dX5_fits_91 : decode cX5_fits 91 = .ok (.if_icmp .ge 187, 3) := by decide +kernel
theorem dX5_fits_94 : decode cX5_fits 94 = .ok (.iload 6, 2) := by decide +kernel
theorem dX5_fits_96 : decode cX5_fits 96 = .ok (.ifCond .eq 182, 3) := by decide +kernel
theorem dX5_fits_99 : decode cX5_fits 99 = .ok (.aload_n 0, 1) := by decide +kernel
theorem dX5_fits_100 : decode cX5_fits 100 = .ok (.getfield 31, 3) := by decide +kernel
theorem dX5_fits_103 : decode cX5_fits 103 = .ok (.iload 9, 2) := by decide +kernel
theorem dX5_fits_105 : decode cX5_fits 105 = .ok (.iaload, 1) := by decide +kernel
theorem dX5_fits_106 : decode cX5_fits 106 = .ok (.iload 4, 2) := by decide +kernel
theorem dX5_fits_108 : decode cX5_fits 108 = .ok (.if_icmp .ge 164, 3) := by decide +kernel
theorem dX5_fits_111 : decode cX5_fits 111 = .ok (.aload_n 0, 1) := by decide +kernel
theorem dX5_fits_112 : decode cX5_fits 112 = .ok (.getfield 31, 3) := by decide +kernel
theorem dX5_fits_115 : decode cX5_fits 115 = .ok (.iload 9, 2) := by decide +kernel
theorem dX5_fits_117 : decode cX5_fits 117 = .ok (.iaload, 1) := by decide +kernel
theorem dX5_fits_118 : decode cX5_fits 118 = .ok (.iload_n 3, 1) := by decide +kernel
theorem dX5_fits_119 : decode cX5_fits 119 = .ok (.invokestatic 62, 3) := by decide +kernel
theorem dX5_fits_122 : decode cX5_fits 122 = .ok (.istore 10, 2) := by decide +kernel
theorem dX5_fits_124 : decode cX5_fits 124 = .ok (.aload_n 0, 1) := by decide +kernel
theorem dX5_fits_125 : decode cX5_fits 125 = .ok (.getfield 22, 3) := by decide +kernel
theorem dX5_fits_128 : decode cX5_fits 128 = .ok (.bipush 11, 2) := by decide +kernel
theorem dX5_fits_130 : decode cX5_fits 130 = .ok (.iload 9, 2) := by decide +kernel
theorem dX5_fits_132 : decode cX5_fits 132 = .ok (.imul, 1) := by decide +kernel
theorem dX5_fits_133 : decode cX5_fits 133 = .ok (.iaload, 1) := by decide +kernel
theorem dX5_fits_134 : decode cX5_fits 134 = .ok (.aload_n 0, 1) := by decide +kernel
theorem dX5_fits_135 : decode cX5_fits 135 = .ok (.getfield 22, 3) := by decide +kernel
theorem dX5_fits_138 : decode cX5_fits 138 = .ok (.iload 5, 2) := by decide +kernel
theorem dX5_fits_140 : decode cX5_fits 140 = .ok (.iaload, 1) := by decide +kernel
theorem dX5_fits_141 : decode cX5_fits 141 = .ok (.if_icmp .ne 7, 3) := by decide +kernel
theorem dX5_fits_144 : decode cX5_fits 144 = .ok (.iconst 1, 1) := by decide +kernel
theorem dX5_fits_145 : decode cX5_fits 145 = .ok (.goto 4, 3) := by decide +kernel
theorem dX5_fits_148 : decode cX5_fits 148 = .ok (.iconst 0, 1) := by decide +kernel
theorem dX5_fits_149 : decode cX5_fits 149 = .ok (.istore 11, 2) := by decide +kernel
theorem dX5_fits_151 : decode cX5_fits 151 = .ok (.aload_n 0, 1) := by decide +kernel
theorem dX5_fits_152 : decode cX5_fits 152 = .ok (.getfield 19, 3) := by decide +kernel
theorem dX5_fits_155 : decode cX5_fits 155 = .ok (.iconst 4, 1) := by decide +kernel
theorem dX5_fits_156 : decode cX5_fits 156 = .ok (.aload_n 0, 1) := by decide +kernel
theorem dX5_fits_157 : decode cX5_fits 157 = .ok (.getfield 22, 3) := by decide +kernel
theorem dX5_fits_160 : decode cX5_fits 160 = .ok (.bipush 11, 2) := by decide +kernel
theorem dX5_fits_162 : decode cX5_fits 162 = .ok (.iload 9, 2) := by decide +kernel
theorem dX5_fits_164 : decode cX5_fits 164 = .ok (.imul, 1) := by decide +kernel
theorem dX5_fits_165 : decode cX5_fits 165 = .ok (.iconst 1, 1) := by decide +kernel
theorem dX5_fits_166 : decode cX5_fits 166 = .ok (.iadd, 1) := by decide +kernel
theorem dX5_fits_167 : decode cX5_fits 167 = .ok (.iaload, 1) := by decide +kernel
theorem dX5_fits_168 : decode cX5_fits 168 = .ok (.imul, 1) := by decide +kernel
theorem dX5_fits_169 : decode cX5_fits 169 = .ok (.aload_n 0, 1) := by decide +kernel
theorem dX5_fits_170 : decode cX5_fits 170 = .ok (.getfield 22, 3) := by decide +kernel
theorem dX5_fits_173 : decode cX5_fits 173 = .ok (.iload 5, 2) := by decide +kernel
theorem dX5_fits_175 : decode cX5_fits 175 = .ok (.iconst 1, 1) := by decide +kernel
theorem dX5_fits_176 : decode cX5_fits 176 = .ok (.iadd, 1) := by decide +kernel
theorem dX5_fits_177 : decode cX5_fits 177 = .ok (.iaload, 1) := by decide +kernel
theorem dX5_fits_178 : decode cX5_fits 178 = .ok (.iadd, 1) := by decide +kernel
theorem dX5_fits_179 : decode cX5_fits 179 = .ok (.iaload, 1) := by decide +kernel
theorem dX5_fits_180 : decode cX5_fits 180 = .ok (.iconst 1, 1) := by decide +kernel
theorem dX5_fits_181 : decode cX5_fits 181 = .ok (.if_icmp .ne 7, 3) := by decide +kernel
theorem dX5_fits_184 : decode cX5_fits 184 = .ok (.iconst 1, 1) := by decide +kernel
theorem dX5_fits_185 : decode cX5_fits 185 = .ok (.goto 4, 3) := by decide +kernel
theorem dX5_fits_188 : decode cX5_fits 188 = .ok (.iconst 0, 1) := by decide +kernel
theorem dX5_fits_189 : decode cX5_fits 189 = .ok (.istore 12, 2) := by decide +kernel
theorem dX5_fits_191 : decode cX5_fits 191 = .ok (.iload 10, 2) := by decide +kernel
theorem dX5_fits_193 : decode cX5_fits 193 = .ok (.ifCond .le 34, 3) := by decide +kernel
theorem dX5_fits_196 : decode cX5_fits 196 = .ok (.iload 11, 2) := by decide +kernel
theorem dX5_fits_198 : decode cX5_fits 198 = .ok (.ifCond .eq 14, 3) := by decide +kernel
theorem dX5_fits_201 : decode cX5_fits 201 = .ok (.iload 10, 2) := by decide +kernel
theorem dX5_fits_203 : decode cX5_fits 203 = .ok (.aload_n 0, 1) := by decide +kernel
theorem dX5_fits_204 : decode cX5_fits 204 = .ok (.getfield 7, 3) := by decide +kernel
theorem dX5_fits_207 : decode cX5_fits 207 = .ok (.iconst 5, 1) := by decide +kernel
theorem dX5_fits_208 : decode cX5_fits 208 = .ok (.iaload, 1) := by decide +kernel
theorem dX5_fits_209 : decode cX5_fits 209 = .ok (.if_icmp .le 18, 3) := by decide +kernel
theorem dX5_fits_212 : decode cX5_fits 212 = .ok (.iload 10, 2) := by decide +kernel
theorem dX5_fits_214 : decode cX5_fits 214 = .ok (.iconst 1, 1) := by decide +kernel
theorem dX5_fits_215 : decode cX5_fits 215 = .ok (.if_icmp .gt 8, 3) := by decide +kernel
theorem dX5_fits_218 : decode cX5_fits 218 = .ok (.iload 12, 2) := by decide +kernel
theorem dX5_fits_220 : decode cX5_fits 220 = .ok (.ifCond .ne 7, 3) := by decide +kernel
theorem dX5_fits_223 : decode cX5_fits 223 = .ok (.iconst 1, 1) := by decide +kernel
theorem dX5_fits_224 : decode cX5_fits 224 = .ok (.goto 4, 3) := by decide +kernel
theorem dX5_fits_227 : decode cX5_fits 227 = .ok (.iconst 0, 1) := by decide +kernel
theorem dX5_fits_228 : decode cX5_fits 228 = .ok (.istore 6, 2) := by decide +kernel
theorem dX5_fits_230 : decode cX5_fits 230 = .ok (.iload 8, 2) := by decide +kernel
theorem dX5_fits_232 : decode cX5_fits 232 = .ok (.aload_n 0, 1) := by decide +kernel
theorem dX5_fits_233 : decode cX5_fits 233 = .ok (.getfield 13, 3) := by decide +kernel
theorem dX5_fits_236 : decode cX5_fits 236 = .ok (.iconst 3, 1) := by decide +kernel
theorem dX5_fits_237 : decode cX5_fits 237 = .ok (.aload_n 0, 1) := by decide +kernel
theorem dX5_fits_238 : decode cX5_fits 238 = .ok (.getfield 31, 3) := by decide +kernel
theorem dX5_fits_241 : decode cX5_fits 241 = .ok (.iload 9, 2) := by decide +kernel
theorem dX5_fits_243 : decode cX5_fits 243 = .ok (.iaload, 1) := by decide +kernel
theorem dX5_fits_244 : decode cX5_fits 244 = .ok (.imul, 1) := by decide +kernel
theorem dX5_fits_245 : decode cX5_fits 245 = .ok (.iconst 1, 1) := by decide +kernel
theorem dX5_fits_246 : decode cX5_fits 246 = .ok (.iadd, 1) := by decide +kernel
theorem dX5_fits_247 : decode cX5_fits 247 = .ok (.iaload, 1) := by decide +kernel
theorem dX5_fits_248 : decode cX5_fits 248 = .ok (.iload 7, 2) := by decide +kernel
theorem dX5_fits_250 : decode cX5_fits 250 = .ok (.if_icmp .ne 18, 3) := by decide +kernel
theorem dX5_fits_253 : decode cX5_fits 253 = .ok (.aload_n 0, 1) := by decide +kernel
theorem dX5_fits_254 : decode cX5_fits 254 = .ok (.getfield 22, 3) := by decide +kernel
theorem dX5_fits_257 : decode cX5_fits 257 = .ok (.bipush 11, 2) := by decide +kernel
theorem dX5_fits_259 : decode cX5_fits 259 = .ok (.iload 9, 2) := by decide +kernel
theorem dX5_fits_261 : decode cX5_fits 261 = .ok (.imul, 1) := by decide +kernel
theorem dX5_fits_262 : decode cX5_fits 262 = .ok (.iconst 2, 1) := by decide +kernel
theorem dX5_fits_263 : decode cX5_fits 263 = .ok (.iadd, 1) := by decide +kernel
theorem dX5_fits_264 : decode cX5_fits 264 = .ok (.iaload, 1) := by decide +kernel
theorem dX5_fits_265 : decode cX5_fits 265 = .ok (.goto 4, 3) := by decide +kernel
theorem dX5_fits_268 : decode cX5_fits 268 = .ok (.iconst 0, 1) := by decide +kernel
theorem dX5_fits_269 : decode cX5_fits 269 = .ok (.iadd, 1) := by decide +kernel
theorem dX5_fits_270 : decode cX5_fits 270 = .ok (.istore 8, 2) := by decide +kernel
theorem dX5_fits_272 : decode cX5_fits 272 = .ok (.iinc 9 1, 3) := by decide +kernel
theorem dX5_fits_275 : decode cX5_fits 275 = .ok (.goto (-187), 3) := by decide +kernel
theorem dX5_fits_278 : decode cX5_fits 278 = .ok (.iload 6, 2) := by decide +kernel
theorem dX5_fits_280 : decode cX5_fits 280 = .ok (.ifCond .eq 21, 3) := by decide +kernel
theorem dX5_fits_283 : decode cX5_fits 283 = .ok (.iload 8, 2) := by decide +kernel
theorem dX5_fits_285 : decode cX5_fits 285 = .ok (.aload_n 0, 1) := by decide +kernel
theorem dX5_fits_286 : decode cX5_fits 286 = .ok (.getfield 16, 3) := by decide +kernel
theorem dX5_fits_289 : decode cX5_fits 289 = .ok (.iconst 3, 1) := by decide +kernel
theorem dX5_fits_290 : decode cX5_fits 290 = .ok (.iload 7, 2) := by decide +kernel
theorem dX5_fits_292 : decode cX5_fits 292 = .ok (.imul, 1) := by decide +kernel
theorem dX5_fits_293 : decode cX5_fits 293 = .ok (.iaload, 1) := by decide +kernel
theorem dX5_fits_294 : decode cX5_fits 294 = .ok (.if_icmp .gt 7, 3) := by decide +kernel
theorem dX5_fits_297 : decode cX5_fits 297 = .ok (.iconst 1, 1) := by decide +kernel
theorem dX5_fits_298 : decode cX5_fits 298 = .ok (.goto 4, 3) := by decide +kernel
theorem dX5_fits_301 : decode cX5_fits 301 = .ok (.iconst 0, 1) := by decide +kernel
theorem dX5_fits_302 : decode cX5_fits 302 = .ok (.ireturn, 1) := by decide +kernel
theorem dX5_takes_0 : decode cX5_takes 0 = .ok (.iconst 0, 1) := by decide +kernel
theorem dX5_takes_1 : decode cX5_takes 1 = .ok (.istore_n 1, 1) := by decide +kernel
theorem dX5_takes_2 : decode cX5_takes 2 = .ok (.iconst 0, 1) := by decide +kernel
theorem dX5_takes_3 : decode cX5_takes 3 = .ok (.istore_n 2, 1) := by decide +kernel
theorem dX5_takes_4 : decode cX5_takes 4 = .ok (.iconst 0, 1) := by decide +kernel
theorem dX5_takes_5 : decode cX5_takes 5 = .ok (.istore_n 3, 1) := by decide +kernel
theorem dX5_takes_6 : decode cX5_takes 6 = .ok (.iload_n 3, 1) := by decide +kernel
theorem dX5_takes_7 : decode cX5_takes 7 = .ok (.aload_n 0, 1) := by decide +kernel
theorem dX5_takes_8 : decode cX5_takes 8 = .ok (.getfield 7, 3) := by decide +kernel
theorem dX5_takes_11 : decode cX5_takes 11 = .ok (.iconst 1, 1) := by decide +kernel
theorem dX5_takes_12 : decode cX5_takes 12 = .ok (.iaload, 1) := by decide +kernel
theorem dX5_takes_13 : decode cX5_takes 13 = .ok (.if_icmp .ge 69, 3) := by decide +kernel
theorem dX5_takes_16 : decode cX5_takes 16 = .ok (.aload_n 0, 1) := by decide +kernel
theorem dX5_takes_17 : decode cX5_takes 17 = .ok (.getfield 31, 3) := by decide +kernel
theorem dX5_takes_20 : decode cX5_takes 20 = .ok (.iload_n 3, 1) := by decide +kernel
theorem dX5_takes_21 : decode cX5_takes 21 = .ok (.iaload, 1) := by decide +kernel
theorem dX5_takes_22 : decode cX5_takes 22 = .ok (.aload_n 0, 1) := by decide +kernel
theorem dX5_takes_23 : decode cX5_takes 23 = .ok (.getfield 7, 3) := by decide +kernel
theorem dX5_takes_26 : decode cX5_takes 26 = .ok (.iconst 0, 1) := by decide +kernel
theorem dX5_takes_27 : decode cX5_takes 27 = .ok (.iaload, 1) := by decide +kernel
theorem dX5_takes_28 : decode cX5_takes 28 = .ok (.if_icmp .ge 7, 3) := by decide +kernel
theorem dX5_takes_31 : decode cX5_takes 31 = .ok (.iconst 1, 1) := by decide +kernel
theorem dX5_takes_32 : decode cX5_takes 32 = .ok (.goto 4, 3) := by decide +kernel
theorem dX5_takes_35 : decode cX5_takes 35 = .ok (.iconst 0, 1) := by decide +kernel
theorem dX5_takes_36 : decode cX5_takes 36 = .ok (.istore 4, 2) := by decide +kernel
theorem dX5_takes_38 : decode cX5_takes 38 = .ok (.iload_n 1, 1) := by decide +kernel
theorem dX5_takes_39 : decode cX5_takes 39 = .ok (.iload 4, 2) := by decide +kernel
theorem dX5_takes_41 : decode cX5_takes 41 = .ok (.ifCond .eq 19, 3) := by decide +kernel
theorem dX5_takes_44 : decode cX5_takes 44 = .ok (.aload_n 0, 1) := by decide +kernel
theorem dX5_takes_45 : decode cX5_takes 45 = .ok (.getfield 13, 3) := by decide +kernel
theorem dX5_takes_48 : decode cX5_takes 48 = .ok (.iconst 3, 1) := by decide +kernel
theorem dX5_takes_49 : decode cX5_takes 49 = .ok (.aload_n 0, 1) := by decide +kernel
theorem dX5_takes_50 : decode cX5_takes 50 = .ok (.getfield 31, 3) := by decide +kernel
theorem dX5_takes_53 : decode cX5_takes 53 = .ok (.iload_n 3, 1) := by decide +kernel
theorem dX5_takes_54 : decode cX5_takes 54 = .ok (.iaload, 1) := by decide +kernel
theorem dX5_takes_55 : decode cX5_takes 55 = .ok (.imul, 1) := by decide +kernel
theorem dX5_takes_56 : decode cX5_takes 56 = .ok (.iaload, 1) := by decide +kernel
theorem dX5_takes_57 : decode cX5_takes 57 = .ok (.goto 4, 3) := by decide +kernel
theorem dX5_takes_60 : decode cX5_takes 60 = .ok (.iconst 0, 1) := by decide +kernel
theorem dX5_takes_61 : decode cX5_takes 61 = .ok (.iadd, 1) := by decide +kernel
theorem dX5_takes_62 : decode cX5_takes 62 = .ok (.istore_n 1, 1) := by decide +kernel
theorem dX5_takes_63 : decode cX5_takes 63 = .ok (.iload_n 2, 1) := by decide +kernel
theorem dX5_takes_64 : decode cX5_takes 64 = .ok (.iload 4, 2) := by decide +kernel
theorem dX5_takes_66 : decode cX5_takes 66 = .ok (.ifCond .eq 7, 3) := by decide +kernel
theorem dX5_takes_69 : decode cX5_takes 69 = .ok (.iconst 1, 1) := by decide +kernel
theorem dX5_takes_70 : decode cX5_takes 70 = .ok (.goto 4, 3) := by decide +kernel
theorem dX5_takes_73 : decode cX5_takes 73 = .ok (.iconst 0, 1) := by decide +kernel
theorem dX5_takes_74 : decode cX5_takes 74 = .ok (.iadd, 1) := by decide +kernel
theorem dX5_takes_75 : decode cX5_takes 75 = .ok (.istore_n 2, 1) := by decide +kernel
theorem dX5_takes_76 : decode cX5_takes 76 = .ok (.iinc 3 1, 3) := by decide +kernel
theorem dX5_takes_79 : decode cX5_takes 79 = .ok (.goto (-73), 3) := by decide +kernel
theorem dX5_takes_82 : decode cX5_takes 82 = .ok (.iload_n 1, 1) := by decide +kernel
theorem dX5_takes_83 : decode cX5_takes 83 = .ok (.aload_n 0, 1) := by decide +kernel
theorem dX5_takes_84 : decode cX5_takes 84 = .ok (.getfield 66, 3) := by decide +kernel
theorem dX5_takes_87 : decode cX5_takes 87 = .ok (.if_icmp .gt 19, 3) := by decide +kernel
theorem dX5_takes_90 : decode cX5_takes 90 = .ok (.iload_n 1, 1) := by decide +kernel
theorem dX5_takes_91 : decode cX5_takes 91 = .ok (.aload_n 0, 1) := by decide +kernel
theorem dX5_takes_92 : decode cX5_takes 92 = .ok (.getfield 66, 3) := by decide +kernel
theorem dX5_takes_95 : decode cX5_takes 95 = .ok (.if_icmp .ne 46, 3) := by decide +kernel
theorem dX5_takes_98 : decode cX5_takes 98 = .ok (.iload_n 2, 1) := by decide +kernel
theorem dX5_takes_99 : decode cX5_takes 99 = .ok (.aload_n 0, 1) := by decide +kernel
theorem dX5_takes_100 : decode cX5_takes 100 = .ok (.getfield 70, 3) := by decide +kernel
theorem dX5_takes_103 : decode cX5_takes 103 = .ok (.if_icmp .le 38, 3) := by decide +kernel
theorem dX5_takes_106 : decode cX5_takes 106 = .ok (.aload_n 0, 1) := by decide +kernel
theorem dX5_takes_107 : decode cX5_takes 107 = .ok (.iload_n 1, 1) := by decide +kernel
theorem dX5_takes_108 : decode cX5_takes 108 = .ok (.putfield 66, 3) := by decide +kernel
theorem dX5_takes_111 : decode cX5_takes 111 = .ok (.aload_n 0, 1) := by decide +kernel
theorem dX5_takes_112 : decode cX5_takes 112 = .ok (.iload_n 2, 1) := by decide +kernel
theorem dX5_takes_113 : decode cX5_takes 113 = .ok (.putfield 70, 3) := by decide +kernel
theorem dX5_takes_116 : decode cX5_takes 116 = .ok (.iconst 0, 1) := by decide +kernel
theorem dX5_takes_117 : decode cX5_takes 117 = .ok (.istore_n 3, 1) := by decide +kernel
theorem dX5_takes_118 : decode cX5_takes 118 = .ok (.iload_n 3, 1) := by decide +kernel
theorem dX5_takes_119 : decode cX5_takes 119 = .ok (.iconst 5, 1) := by decide +kernel
theorem dX5_takes_120 : decode cX5_takes 120 = .ok (.if_icmp .ge 21, 3) := by decide +kernel
theorem dX5_takes_123 : decode cX5_takes 123 = .ok (.aload_n 0, 1) := by decide +kernel
theorem dX5_takes_124 : decode cX5_takes 124 = .ok (.getfield 34, 3) := by decide +kernel
theorem dX5_takes_127 : decode cX5_takes 127 = .ok (.iload_n 3, 1) := by decide +kernel
theorem dX5_takes_128 : decode cX5_takes 128 = .ok (.aload_n 0, 1) := by decide +kernel
theorem dX5_takes_129 : decode cX5_takes 129 = .ok (.getfield 31, 3) := by decide +kernel
theorem dX5_takes_132 : decode cX5_takes 132 = .ok (.iload_n 3, 1) := by decide +kernel
theorem dX5_takes_133 : decode cX5_takes 133 = .ok (.iaload, 1) := by decide +kernel
theorem dX5_takes_134 : decode cX5_takes 134 = .ok (.iastore, 1) := by decide +kernel
theorem dX5_takes_135 : decode cX5_takes 135 = .ok (.iinc 3 1, 3) := by decide +kernel
theorem dX5_takes_138 : decode cX5_takes 138 = .ok (.goto (-20), 3) := by decide +kernel
theorem dX5_takes_141 : decode cX5_takes 141 = .ok (.return_, 1) := by decide +kernel
theorem dX5_findLayout_0 : decode cX5_findLayout 0 = .ok (.aload_n 0, 1) := by decide +kernel
theorem dX5_findLayout_1 : decode cX5_findLayout 1 = .ok (.iconst (-1), 1) := by decide +kernel
theorem dX5_findLayout_2 : decode cX5_findLayout 2 = .ok (.putfield 66, 3) := by decide +kernel
theorem dX5_findLayout_5 : decode cX5_findLayout 5 = .ok (.aload_n 0, 1) := by decide +kernel
theorem dX5_findLayout_6 : decode cX5_findLayout 6 = .ok (.iconst 0, 1) := by decide +kernel
theorem dX5_findLayout_7 : decode cX5_findLayout 7 = .ok (.putfield 70, 3) := by decide +kernel
theorem dX5_findLayout_10 : decode cX5_findLayout 10 = .ok (.iconst 0, 1) := by decide +kernel
theorem dX5_findLayout_11 : decode cX5_findLayout 11 = .ok (.istore_n 2, 1) := by decide +kernel
theorem dX5_findLayout_12 : decode cX5_findLayout 12 = .ok (.aload_n 0, 1) := by decide +kernel
theorem dX5_findLayout_13 : decode cX5_findLayout 13 = .ok (.getfield 31, 3) := by decide +kernel
theorem dX5_findLayout_16 : decode cX5_findLayout 16 = .ok (.iconst 0, 1) := by decide +kernel
theorem dX5_findLayout_17 : decode cX5_findLayout 17 = .ok (.iconst (-1), 1) := by decide +kernel
theorem dX5_findLayout_18 : decode cX5_findLayout 18 = .ok (.iastore, 1) := by decide +kernel
theorem dX5_findLayout_19 : decode cX5_findLayout 19 = .ok (.iload_n 2, 1) := by decide +kernel
theorem dX5_findLayout_20 : decode cX5_findLayout 20 = .ok (.ifCond .lt 76, 3) := by decide +kernel
theorem dX5_findLayout_23 : decode cX5_findLayout 23 = .ok (.iload_n 2, 1) := by decide +kernel
theorem dX5_findLayout_24 : decode cX5_findLayout 24 = .ok (.aload_n 0, 1) := by decide +kernel
theorem dX5_findLayout_25 : decode cX5_findLayout 25 = .ok (.getfield 7, 3) := by decide +kernel
theorem dX5_findLayout_28 : decode cX5_findLayout 28 = .ok (.iconst 1, 1) := by decide +kernel
theorem dX5_findLayout_29 : decode cX5_findLayout 29 = .ok (.iaload, 1) := by decide +kernel
theorem dX5_findLayout_30 : decode cX5_findLayout 30 = .ok (.if_icmp .ne 13, 3) := by decide +kernel
theorem dX5_findLayout_33 : decode cX5_findLayout 33 = .ok (.aload_n 0, 1) := by decide +kernel
theorem dX5_findLayout_34 : decode cX5_findLayout 34 = .ok (.invokevirtual 73, 3) := by decide +kernel
theorem dX5_findLayout_37 : decode cX5_findLayout 37 = .ok (.iinc 2 (-1), 3) := by decide +kernel
theorem dX5_findLayout_40 : decode cX5_findLayout 40 = .ok (.goto (-21), 3) := by decide +kernel
theorem dX5_findLayout_43 : decode cX5_findLayout 43 = .ok (.aload_n 0, 1) := by decide +kernel
theorem dX5_findLayout_44 : decode cX5_findLayout 44 = .ok (.getfield 31, 3) := by decide +kernel
theorem dX5_findLayout_47 : decode cX5_findLayout 47 = .ok (.iload_n 2, 1) := by decide +kernel
theorem dX5_findLayout_48 : decode cX5_findLayout 48 = .ok (.dup2, 1) := by decide +kernel
theorem dX5_findLayout_49 : decode cX5_findLayout 49 = .ok (.iaload, 1) := by decide +kernel
theorem dX5_findLayout_50 : decode cX5_findLayout 50 = .ok (.iconst 1, 1) := by decide +kernel
theorem dX5_findLayout_51 : decode cX5_findLayout 51 = .ok (.iadd, 1) := by decide +kernel
theorem dX5_findLayout_52 : decode cX5_findLayout 52 = .ok (.iastore, 1) := by decide +kernel
theorem dX5_findLayout_53 : decode cX5_findLayout 53 = .ok (.aload_n 0, 1) := by decide +kernel
theorem dX5_findLayout_54 : decode cX5_findLayout 54 = .ok (.getfield 31, 3) := by decide +kernel
theorem dX5_findLayout_57 : decode cX5_findLayout 57 = .ok (.iload_n 2, 1) := by decide +kernel
theorem dX5_findLayout_58 : decode cX5_findLayout 58 = .ok (.iaload, 1) := by decide +kernel
theorem dX5_findLayout_59 : decode cX5_findLayout 59 = .ok (.aload_n 0, 1) := by decide +kernel
theorem dX5_findLayout_60 : decode cX5_findLayout 60 = .ok (.getfield 7, 3) := by decide +kernel
theorem dX5_findLayout_63 : decode cX5_findLayout 63 = .ok (.iconst 0, 1) := by decide +kernel
theorem dX5_findLayout_64 : decode cX5_findLayout 64 = .ok (.iaload, 1) := by decide +kernel
theorem dX5_findLayout_65 : decode cX5_findLayout 65 = .ok (.if_icmp .le 9, 3) := by decide +kernel
theorem dX5_findLayout_68 : decode cX5_findLayout 68 = .ok (.iinc 2 (-1), 3) := by decide +kernel
theorem dX5_findLayout_71 : decode cX5_findLayout 71 = .ok (.goto (-52), 3) := by decide +kernel
theorem dX5_findLayout_74 : decode cX5_findLayout 74 = .ok (.aload_n 0, 1) := by decide +kernel
theorem dX5_findLayout_75 : decode cX5_findLayout 75 = .ok (.iload_n 2, 1) := by decide +kernel
theorem dX5_findLayout_76 : decode cX5_findLayout 76 = .ok (.iload_n 1, 1) := by decide +kernel
theorem dX5_findLayout_77 : decode cX5_findLayout 77 = .ok (.invokevirtual 76, 3) := by decide +kernel
theorem dX5_findLayout_80 : decode cX5_findLayout 80 = .ok (.ifCond .eq (-61), 3) := by decide +kernel
theorem dX5_findLayout_83 : decode cX5_findLayout 83 = .ok (.iinc 2 1, 3) := by decide +kernel
theorem dX5_findLayout_86 : decode cX5_findLayout 86 = .ok (.aload_n 0, 1) := by decide +kernel
theorem dX5_findLayout_87 : decode cX5_findLayout 87 = .ok (.getfield 31, 3) := by decide +kernel
theorem dX5_findLayout_90 : decode cX5_findLayout 90 = .ok (.iload_n 2, 1) := by decide +kernel
theorem dX5_findLayout_91 : decode cX5_findLayout 91 = .ok (.iconst (-1), 1) := by decide +kernel
theorem dX5_findLayout_92 : decode cX5_findLayout 92 = .ok (.iastore, 1) := by decide +kernel
theorem dX5_findLayout_93 : decode cX5_findLayout 93 = .ok (.goto (-74), 3) := by decide +kernel
theorem dX5_findLayout_96 : decode cX5_findLayout 96 = .ok (.return_, 1) := by decide +kernel
theorem dX5_layout_0 : decode cX5_layout 0 = .ok (.iload_n 1, 1) := by decide +kernel
theorem dX5_layout_1 : decode cX5_layout 1 = .ok (.invokestatic 79, 3) := by decide +kernel
theorem dX5_layout_4 : decode cX5_layout 4 = .ok (.ifCond .eq 11, 3) := by decide +kernel
theorem dX5_layout_7 : decode cX5_layout 7 = .ok (.aload_n 0, 1) := by decide +kernel
theorem dX5_layout_8 : decode cX5_layout 8 = .ok (.iload_n 2, 1) := by decide +kernel
theorem dX5_layout_9 : decode cX5_layout 9 = .ok (.invokevirtual 59, 3) := by decide +kernel
theorem dX5_layout_12 : decode cX5_layout 12 = .ok (.ifCond .ne 5, 3) := by decide +kernel
theorem dX5_layout_15 : decode cX5_layout 15 = .ok (.iconst (-1), 1) := by decide +kernel
theorem dX5_layout_16 : decode cX5_layout 16 = .ok (.ireturn, 1) := by decide +kernel
theorem dX5_layout_17 : decode cX5_layout 17 = .ok (.aload_n 0, 1) := by decide +kernel
theorem dX5_layout_18 : decode cX5_layout 18 = .ok (.iload_n 1, 1) := by decide +kernel
theorem dX5_layout_19 : decode cX5_layout 19 = .ok (.invokevirtual 82, 3) := by decide +kernel
theorem dX5_layout_22 : decode cX5_layout 22 = .ok (.aload_n 0, 1) := by decide +kernel
theorem dX5_layout_23 : decode cX5_layout 23 = .ok (.getfield 34, 3) := by decide +kernel
theorem dX5_layout_26 : decode cX5_layout 26 = .ok (.iload_n 2, 1) := by decide +kernel
theorem dX5_layout_27 : decode cX5_layout 27 = .ok (.iaload, 1) := by decide +kernel
theorem dX5_layout_28 : decode cX5_layout 28 = .ok (.aload_n 0, 1) := by decide +kernel
theorem dX5_layout_29 : decode cX5_layout 29 = .ok (.getfield 7, 3) := by decide +kernel
theorem dX5_layout_32 : decode cX5_layout 32 = .ok (.iconst 0, 1) := by decide +kernel
theorem dX5_layout_33 : decode cX5_layout 33 = .ok (.iaload, 1) := by decide +kernel
theorem dX5_layout_34 : decode cX5_layout 34 = .ok (.if_icmp .ne 8, 3) := by decide +kernel
theorem dX5_layout_37 : decode cX5_layout 37 = .ok (.bipush (-4), 2) := by decide +kernel
theorem dX5_layout_39 : decode cX5_layout 39 = .ok (.goto 9, 3) := by decide +kernel
theorem dX5_layout_42 : decode cX5_layout 42 = .ok (.aload_n 0, 1) := by decide +kernel
theorem dX5_layout_43 : decode cX5_layout 43 = .ok (.getfield 34, 3) := by decide +kernel
theorem dX5_layout_46 : decode cX5_layout 46 = .ok (.iload_n 2, 1) := by decide +kernel
theorem dX5_layout_47 : decode cX5_layout 47 = .ok (.iaload, 1) := by decide +kernel
theorem dX5_layout_48 : decode cX5_layout 48 = .ok (.ireturn, 1) := by decide +kernel
theorem dX5_worth_0 : decode cX5_worth 0 = .ok (.iload_n 1, 1) := by decide +kernel
theorem dX5_worth_1 : decode cX5_worth 1 = .ok (.invokestatic 79, 3) := by decide +kernel
theorem dX5_worth_4 : decode cX5_worth 4 = .ok (.ifCond .ne 5, 3) := by decide +kernel
theorem dX5_worth_7 : decode cX5_worth 7 = .ok (.iconst (-1), 1) := by decide +kernel
theorem dX5_worth_8 : decode cX5_worth 8 = .ok (.ireturn, 1) := by decide +kernel
theorem dX5_worth_9 : decode cX5_worth 9 = .ok (.aload_n 0, 1) := by decide +kernel
theorem dX5_worth_10 : decode cX5_worth 10 = .ok (.iload_n 1, 1) := by decide +kernel
theorem dX5_worth_11 : decode cX5_worth 11 = .ok (.invokevirtual 82, 3) := by decide +kernel
theorem dX5_worth_14 : decode cX5_worth 14 = .ok (.aload_n 0, 1) := by decide +kernel
theorem dX5_worth_15 : decode cX5_worth 15 = .ok (.getfield 66, 3) := by decide +kernel
theorem dX5_worth_18 : decode cX5_worth 18 = .ok (.ireturn, 1) := by decide +kernel
theorem dX5_standing_0 : decode cX5_standing 0 = .ok (.iconst 0, 1) := by decide +kernel
theorem dX5_standing_1 : decode cX5_standing 1 = .ok (.istore_n 1, 1) := by decide +kernel
theorem dX5_standing_2 : decode cX5_standing 2 = .ok (.iconst 0, 1) := by decide +kernel
theorem dX5_standing_3 : decode cX5_standing 3 = .ok (.istore_n 2, 1) := by decide +kernel
theorem dX5_standing_4 : decode cX5_standing 4 = .ok (.iload_n 2, 1) := by decide +kernel
theorem dX5_standing_5 : decode cX5_standing 5 = .ok (.aload_n 0, 1) := by decide +kernel
theorem dX5_standing_6 : decode cX5_standing 6 = .ok (.getfield 7, 3) := by decide +kernel
theorem dX5_standing_9 : decode cX5_standing 9 = .ok (.iconst 1, 1) := by decide +kernel
theorem dX5_standing_10 : decode cX5_standing 10 = .ok (.iaload, 1) := by decide +kernel
theorem dX5_standing_11 : decode cX5_standing 11 = .ok (.if_icmp .ge 25, 3) := by decide +kernel
theorem dX5_standing_14 : decode cX5_standing 14 = .ok (.iload_n 1, 1) := by decide +kernel
theorem dX5_standing_15 : decode cX5_standing 15 = .ok (.aload_n 0, 1) := by decide +kernel
theorem dX5_standing_16 : decode cX5_standing 16 = .ok (.iload_n 2, 1) := by decide +kernel
theorem dX5_standing_17 : decode cX5_standing 17 = .ok (.invokevirtual 86, 3) := by decide +kernel
theorem dX5_standing_20 : decode cX5_standing 20 = .ok (.ifCond .lt 7, 3) := by decide +kernel
theorem dX5_standing_23 : decode cX5_standing 23 = .ok (.iconst 1, 1) := by decide +kernel
theorem dX5_standing_24 : decode cX5_standing 24 = .ok (.goto 4, 3) := by decide +kernel
theorem dX5_standing_27 : decode cX5_standing 27 = .ok (.iconst 0, 1) := by decide +kernel
theorem dX5_standing_28 : decode cX5_standing 28 = .ok (.iadd, 1) := by decide +kernel
theorem dX5_standing_29 : decode cX5_standing 29 = .ok (.istore_n 1, 1) := by decide +kernel
theorem dX5_standing_30 : decode cX5_standing 30 = .ok (.iinc 2 1, 3) := by decide +kernel
theorem dX5_standing_33 : decode cX5_standing 33 = .ok (.goto (-29), 3) := by decide +kernel
theorem dX5_standing_36 : decode cX5_standing 36 = .ok (.iload_n 1, 1) := by decide +kernel
theorem dX5_standing_37 : decode cX5_standing 37 = .ok (.ireturn, 1) := by decide +kernel
theorem dX5_open_0 : decode cX5_open 0 = .ok (.aload_n 0, 1) := by decide +kernel
theorem dX5_open_1 : decode cX5_open 1 = .ok (.invokevirtual 41, 3) := by decide +kernel
theorem dX5_open_4 : decode cX5_open 4 = .ok (.ifCond .eq 6, 3) := by decide +kernel
theorem dX5_open_7 : decode cX5_open 7 = .ok (.bipush (-3), 2) := by decide +kernel
theorem dX5_open_9 : decode cX5_open 9 = .ok (.ireturn, 1) := by decide +kernel
theorem dX5_open_10 : decode cX5_open 10 = .ok (.iload_n 1, 1) := by decide +kernel
theorem dX5_open_11 : decode cX5_open 11 = .ok (.invokestatic 79, 3) := by decide +kernel
theorem dX5_open_14 : decode cX5_open 14 = .ok (.ifCond .ne 5, 3) := by decide +kernel
theorem dX5_open_17 : decode cX5_open 17 = .ok (.iconst (-1), 1) := by decide +kernel
theorem dX5_open_18 : decode cX5_open 18 = .ok (.ireturn, 1) := by decide +kernel
theorem dX5_open_19 : decode cX5_open 19 = .ok (.aload_n 0, 1) := by decide +kernel
theorem dX5_open_20 : decode cX5_open 20 = .ok (.iload_n 1, 1) := by decide +kernel
theorem dX5_open_21 : decode cX5_open 21 = .ok (.invokevirtual 82, 3) := by decide +kernel
theorem dX5_open_24 : decode cX5_open 24 = .ok (.aload_n 0, 1) := by decide +kernel
theorem dX5_open_25 : decode cX5_open 25 = .ok (.invokevirtual 45, 3) := by decide +kernel
theorem dX5_open_28 : decode cX5_open 28 = .ok (.aload_n 0, 1) := by decide +kernel
theorem dX5_open_29 : decode cX5_open 29 = .ok (.getfield 7, 3) := by decide +kernel
theorem dX5_open_32 : decode cX5_open 32 = .ok (.iconst 2, 1) := by decide +kernel
theorem dX5_open_33 : decode cX5_open 33 = .ok (.iconst 1, 1) := by decide +kernel
theorem dX5_open_34 : decode cX5_open 34 = .ok (.iastore, 1) := by decide +kernel
theorem dX5_open_35 : decode cX5_open 35 = .ok (.iconst 0, 1) := by decide +kernel
theorem dX5_open_36 : decode cX5_open 36 = .ok (.istore_n 2, 1) := by decide +kernel
theorem dX5_open_37 : decode cX5_open 37 = .ok (.iload_n 2, 1) := by decide +kernel
theorem dX5_open_38 : decode cX5_open 38 = .ok (.aload_n 0, 1) := by decide +kernel
theorem dX5_open_39 : decode cX5_open 39 = .ok (.getfield 7, 3) := by decide +kernel
theorem dX5_open_42 : decode cX5_open 42 = .ok (.iconst 1, 1) := by decide +kernel
theorem dX5_open_43 : decode cX5_open 43 = .ok (.iaload, 1) := by decide +kernel
theorem dX5_open_44 : decode cX5_open 44 = .ok (.if_icmp .ge 46, 3) := by decide +kernel
theorem dX5_open_47 : decode cX5_open 47 = .ok (.aload_n 0, 1) := by decide +kernel
theorem dX5_open_48 : decode cX5_open 48 = .ok (.getfield 22, 3) := by decide +kernel
theorem dX5_open_51 : decode cX5_open 51 = .ok (.bipush 11, 2) := by decide +kernel
theorem dX5_open_53 : decode cX5_open 53 = .ok (.iload_n 2, 1) := by decide +kernel
theorem dX5_open_54 : decode cX5_open 54 = .ok (.imul, 1) := by decide +kernel
theorem dX5_open_55 : decode cX5_open 55 = .ok (.bipush 6, 2) := by decide +kernel
theorem dX5_open_57 : decode cX5_open 57 = .ok (.iadd, 1) := by decide +kernel
theorem dX5_open_58 : decode cX5_open 58 = .ok (.aload_n 0, 1) := by decide +kernel
theorem dX5_open_59 : decode cX5_open 59 = .ok (.getfield 34, 3) := by decide +kernel
theorem dX5_open_62 : decode cX5_open 62 = .ok (.iload_n 2, 1) := by decide +kernel
theorem dX5_open_63 : decode cX5_open 63 = .ok (.iaload, 1) := by decide +kernel
theorem dX5_open_64 : decode cX5_open 64 = .ok (.aload_n 0, 1) := by decide +kernel
theorem dX5_open_65 : decode cX5_open 65 = .ok (.getfield 7, 3) := by decide +kernel
theorem dX5_open_68 : decode cX5_open 68 = .ok (.iconst 0, 1) := by decide +kernel
theorem dX5_open_69 : decode cX5_open 69 = .ok (.iaload, 1) := by decide +kernel
theorem dX5_open_70 : decode cX5_open 70 = .ok (.if_icmp .ne 7, 3) := by decide +kernel
theorem dX5_open_73 : decode cX5_open 73 = .ok (.iconst (-1), 1) := by decide +kernel
theorem dX5_open_74 : decode cX5_open 74 = .ok (.goto 9, 3) := by decide +kernel
theorem dX5_open_77 : decode cX5_open 77 = .ok (.aload_n 0, 1) := by decide +kernel
theorem dX5_open_78 : decode cX5_open 78 = .ok (.getfield 34, 3) := by decide +kernel
theorem dX5_open_81 : decode cX5_open 81 = .ok (.iload_n 2, 1) := by decide +kernel
theorem dX5_open_82 : decode cX5_open 82 = .ok (.iaload, 1) := by decide +kernel
theorem dX5_open_83 : decode cX5_open 83 = .ok (.iastore, 1) := by decide +kernel
theorem dX5_open_84 : decode cX5_open 84 = .ok (.iinc 2 1, 3) := by decide +kernel
theorem dX5_open_87 : decode cX5_open 87 = .ok (.goto (-50), 3) := by decide +kernel
theorem dX5_open_90 : decode cX5_open 90 = .ok (.aload_n 0, 1) := by decide +kernel
theorem dX5_open_91 : decode cX5_open 91 = .ok (.invokevirtual 90, 3) := by decide +kernel
theorem dX5_open_94 : decode cX5_open 94 = .ok (.ireturn, 1) := by decide +kernel
theorem dX5_shut_0 : decode cX5_shut 0 = .ok (.aload_n 0, 1) := by decide +kernel
theorem dX5_shut_1 : decode cX5_shut 1 = .ok (.invokevirtual 41, 3) := by decide +kernel
theorem dX5_shut_4 : decode cX5_shut 4 = .ok (.ifCond .ne 6, 3) := by decide +kernel
theorem dX5_shut_7 : decode cX5_shut 7 = .ok (.bipush (-3), 2) := by decide +kernel
theorem dX5_shut_9 : decode cX5_shut 9 = .ok (.ireturn, 1) := by decide +kernel
theorem dX5_shut_10 : decode cX5_shut 10 = .ok (.aload_n 0, 1) := by decide +kernel
theorem dX5_shut_11 : decode cX5_shut 11 = .ok (.getfield 7, 3) := by decide +kernel
theorem dX5_shut_14 : decode cX5_shut 14 = .ok (.iconst 2, 1) := by decide +kernel
theorem dX5_shut_15 : decode cX5_shut 15 = .ok (.iconst 0, 1) := by decide +kernel
theorem dX5_shut_16 : decode cX5_shut 16 = .ok (.iastore, 1) := by decide +kernel
theorem dX5_shut_17 : decode cX5_shut 17 = .ok (.aload_n 0, 1) := by decide +kernel
theorem dX5_shut_18 : decode cX5_shut 18 = .ok (.getfield 7, 3) := by decide +kernel
theorem dX5_shut_21 : decode cX5_shut 21 = .ok (.iconst 3, 1) := by decide +kernel
theorem dX5_shut_22 : decode cX5_shut 22 = .ok (.iaload, 1) := by decide +kernel
theorem dX5_shut_23 : decode cX5_shut 23 = .ok (.ireturn, 1) := by decide +kernel
theorem dX5_guest_0 : decode cX5_guest 0 = .ok (.aload_n 0, 1) := by decide +kernel
theorem dX5_guest_1 : decode cX5_guest 1 = .ok (.invokevirtual 41, 3) := by decide +kernel
theorem dX5_guest_4 : decode cX5_guest 4 = .ok (.ifCond .ne 6, 3) := by decide +kernel
theorem dX5_guest_7 : decode cX5_guest 7 = .ok (.bipush (-3), 2) := by decide +kernel
theorem dX5_guest_9 : decode cX5_guest 9 = .ok (.ireturn, 1) := by decide +kernel
theorem dX5_guest_10 : decode cX5_guest 10 = .ok (.iload_n 1, 1) := by decide +kernel
theorem dX5_guest_11 : decode cX5_guest 11 = .ok (.iconst 0, 1) := by decide +kernel
theorem dX5_guest_12 : decode cX5_guest 12 = .ok (.iconst 5, 1) := by decide +kernel
theorem dX5_guest_13 : decode cX5_guest 13 = .ok (.invokestatic 37, 3) := by decide +kernel
theorem dX5_guest_16 : decode cX5_guest 16 = .ok (.ifCond .eq 13, 3) := by decide +kernel
theorem dX5_guest_19 : decode cX5_guest 19 = .ok (.iload_n 2, 1) := by decide +kernel
theorem dX5_guest_20 : decode cX5_guest 20 = .ok (.iconst 1, 1) := by decide +kernel
theorem dX5_guest_21 : decode cX5_guest 21 = .ok (.bipush 50, 2) := by decide +kernel
theorem dX5_guest_23 : decode cX5_guest 23 = .ok (.invokestatic 37, 3) := by decide +kernel
theorem dX5_guest_26 : decode cX5_guest 26 = .ok (.ifCond .ne 5, 3) := by decide +kernel
theorem dX5_guest_29 : decode cX5_guest 29 = .ok (.iconst (-1), 1) := by decide +kernel
theorem dX5_guest_30 : decode cX5_guest 30 = .ok (.ireturn, 1) := by decide +kernel
theorem dX5_guest_31 : decode cX5_guest 31 = .ok (.aload_n 0, 1) := by decide +kernel
theorem dX5_guest_32 : decode cX5_guest 32 = .ok (.getfield 7, 3) := by decide +kernel
theorem dX5_guest_35 : decode cX5_guest 35 = .ok (.iconst 4, 1) := by decide +kernel
theorem dX5_guest_36 : decode cX5_guest 36 = .ok (.iaload, 1) := by decide +kernel
theorem dX5_guest_37 : decode cX5_guest 37 = .ok (.bipush 20, 2) := by decide +kernel
theorem dX5_guest_39 : decode cX5_guest 39 = .ok (.if_icmp .ne 6, 3) := by decide +kernel
theorem dX5_guest_42 : decode cX5_guest 42 = .ok (.bipush (-2), 2) := by decide +kernel
theorem dX5_guest_44 : decode cX5_guest 44 = .ok (.ireturn, 1) := by decide +kernel
theorem dX5_guest_45 : decode cX5_guest 45 = .ok (.bipush 7, 2) := by decide +kernel
theorem dX5_guest_47 : decode cX5_guest 47 = .ok (.aload_n 0, 1) := by decide +kernel
theorem dX5_guest_48 : decode cX5_guest 48 = .ok (.getfield 7, 3) := by decide +kernel
theorem dX5_guest_51 : decode cX5_guest 51 = .ok (.iconst 4, 1) := by decide +kernel
theorem dX5_guest_52 : decode cX5_guest 52 = .ok (.iaload, 1) := by decide +kernel
theorem dX5_guest_53 : decode cX5_guest 53 = .ok (.imul, 1) := by decide +kernel
theorem dX5_guest_54 : decode cX5_guest 54 = .ok (.istore_n 3, 1) := by decide +kernel
theorem dX5_guest_55 : decode cX5_guest 55 = .ok (.aload_n 0, 1) := by decide +kernel
theorem dX5_guest_56 : decode cX5_guest 56 = .ok (.getfield 25, 3) := by decide +kernel
theorem dX5_guest_59 : decode cX5_guest 59 = .ok (.iload_n 3, 1) := by decide +kernel
theorem dX5_guest_60 : decode cX5_guest 60 = .ok (.iload_n 1, 1) := by decide +kernel
theorem dX5_guest_61 : decode cX5_guest 61 = .ok (.iastore, 1) := by decide +kernel
theorem dX5_guest_62 : decode cX5_guest 62 = .ok (.aload_n 0, 1) := by decide +kernel
theorem dX5_guest_63 : decode cX5_guest 63 = .ok (.getfield 25, 3) := by decide +kernel
theorem dX5_guest_66 : decode cX5_guest 66 = .ok (.iload_n 3, 1) := by decide +kernel
theorem dX5_guest_67 : decode cX5_guest 67 = .ok (.iconst 1, 1) := by decide +kernel
theorem dX5_guest_68 : decode cX5_guest 68 = .ok (.iadd, 1) := by decide +kernel
theorem dX5_guest_69 : decode cX5_guest 69 = .ok (.iload_n 2, 1) := by decide +kernel
theorem dX5_guest_70 : decode cX5_guest 70 = .ok (.iastore, 1) := by decide +kernel
theorem dX5_guest_71 : decode cX5_guest 71 = .ok (.aload_n 0, 1) := by decide +kernel
theorem dX5_guest_72 : decode cX5_guest 72 = .ok (.getfield 25, 3) := by decide +kernel
theorem dX5_guest_75 : decode cX5_guest 75 = .ok (.iload_n 3, 1) := by decide +kernel
theorem dX5_guest_76 : decode cX5_guest 76 = .ok (.iconst 2, 1) := by decide +kernel
theorem dX5_guest_77 : decode cX5_guest 77 = .ok (.iadd, 1) := by decide +kernel
theorem dX5_guest_78 : decode cX5_guest 78 = .ok (.iconst 0, 1) := by decide +kernel
theorem dX5_guest_79 : decode cX5_guest 79 = .ok (.iastore, 1) := by decide +kernel
theorem dX5_guest_80 : decode cX5_guest 80 = .ok (.aload_n 0, 1) := by decide +kernel
theorem dX5_guest_81 : decode cX5_guest 81 = .ok (.getfield 25, 3) := by decide +kernel
theorem dX5_guest_84 : decode cX5_guest 84 = .ok (.iload_n 3, 1) := by decide +kernel
theorem dX5_guest_85 : decode cX5_guest 85 = .ok (.iconst 3, 1) := by decide +kernel
theorem dX5_guest_86 : decode cX5_guest 86 = .ok (.iadd, 1) := by decide +kernel
theorem dX5_guest_87 : decode cX5_guest 87 = .ok (.iconst 0, 1) := by decide +kernel
theorem dX5_guest_88 : decode cX5_guest 88 = .ok (.iastore, 1) := by decide +kernel
theorem dX5_guest_89 : decode cX5_guest 89 = .ok (.aload_n 0, 1) := by decide +kernel
theorem dX5_guest_90 : decode cX5_guest 90 = .ok (.getfield 25, 3) := by decide +kernel
theorem dX5_guest_93 : decode cX5_guest 93 = .ok (.iload_n 3, 1) := by decide +kernel
theorem dX5_guest_94 : decode cX5_guest 94 = .ok (.iconst 4, 1) := by decide +kernel
theorem dX5_guest_95 : decode cX5_guest 95 = .ok (.iadd, 1) := by decide +kernel
theorem dX5_guest_96 : decode cX5_guest 96 = .ok (.iconst (-1), 1) := by decide +kernel
theorem dX5_guest_97 : decode cX5_guest 97 = .ok (.iastore, 1) := by decide +kernel
theorem dX5_guest_98 : decode cX5_guest 98 = .ok (.aload_n 0, 1) := by decide +kernel
theorem dX5_guest_99 : decode cX5_guest 99 = .ok (.getfield 25, 3) := by decide +kernel
theorem dX5_guest_102 : decode cX5_guest 102 = .ok (.iload_n 3, 1) := by decide +kernel
theorem dX5_guest_103 : decode cX5_guest 103 = .ok (.iconst 5, 1) := by decide +kernel
theorem dX5_guest_104 : decode cX5_guest 104 = .ok (.iadd, 1) := by decide +kernel
theorem dX5_guest_105 : decode cX5_guest 105 = .ok (.iconst 0, 1) := by decide +kernel
theorem dX5_guest_106 : decode cX5_guest 106 = .ok (.iastore, 1) := by decide +kernel
theorem dX5_guest_107 : decode cX5_guest 107 = .ok (.aload_n 0, 1) := by decide +kernel
theorem dX5_guest_108 : decode cX5_guest 108 = .ok (.getfield 25, 3) := by decide +kernel
theorem dX5_guest_111 : decode cX5_guest 111 = .ok (.iload_n 3, 1) := by decide +kernel
theorem dX5_guest_112 : decode cX5_guest 112 = .ok (.bipush 6, 2) := by decide +kernel
theorem dX5_guest_114 : decode cX5_guest 114 = .ok (.iadd, 1) := by decide +kernel
theorem dX5_guest_115 : decode cX5_guest 115 = .ok (.iconst (-1), 1) := by decide +kernel
theorem dX5_guest_116 : decode cX5_guest 116 = .ok (.iastore, 1) := by decide +kernel
theorem dX5_guest_117 : decode cX5_guest 117 = .ok (.aload_n 0, 1) := by decide +kernel
theorem dX5_guest_118 : decode cX5_guest 118 = .ok (.getfield 7, 3) := by decide +kernel
theorem dX5_guest_121 : decode cX5_guest 121 = .ok (.iconst 4, 1) := by decide +kernel
theorem dX5_guest_122 : decode cX5_guest 122 = .ok (.dup2, 1) := by decide +kernel
theorem dX5_guest_123 : decode cX5_guest 123 = .ok (.iaload, 1) := by decide +kernel
theorem dX5_guest_124 : decode cX5_guest 124 = .ok (.iconst 1, 1) := by decide +kernel
theorem dX5_guest_125 : decode cX5_guest 125 = .ok (.iadd, 1) := by decide +kernel
theorem dX5_guest_126 : decode cX5_guest 126 = .ok (.iastore, 1) := by decide +kernel
theorem dX5_guest_127 : decode cX5_guest 127 = .ok (.aload_n 0, 1) := by decide +kernel
theorem dX5_guest_128 : decode cX5_guest 128 = .ok (.getfield 7, 3) := by decide +kernel
theorem dX5_guest_131 : decode cX5_guest 131 = .ok (.iconst 4, 1) := by decide +kernel
theorem dX5_guest_132 : decode cX5_guest 132 = .ok (.iaload, 1) := by decide +kernel
theorem dX5_guest_133 : decode cX5_guest 133 = .ok (.iconst 1, 1) := by decide +kernel
theorem dX5_guest_134 : decode cX5_guest 134 = .ok (.isub, 1) := by decide +kernel
theorem dX5_guest_135 : decode cX5_guest 135 = .ok (.ireturn, 1) := by decide +kernel
theorem dX5_works_0 : decode cX5_works 0 = .ok (.aload_n 0, 1) := by decide +kernel
theorem dX5_works_1 : decode cX5_works 1 = .ok (.iload_n 1, 1) := by decide +kernel
theorem dX5_works_2 : decode cX5_works 2 = .ok (.invokevirtual 86, 3) := by decide +kernel
theorem dX5_works_5 : decode cX5_works 5 = .ok (.ifCond .lt 33, 3) := by decide +kernel
theorem dX5_works_8 : decode cX5_works 8 = .ok (.aload_n 0, 1) := by decide +kernel
theorem dX5_works_9 : decode cX5_works 9 = .ok (.getfield 16, 3) := by decide +kernel
theorem dX5_works_12 : decode cX5_works 12 = .ok (.iconst 3, 1) := by decide +kernel
theorem dX5_works_13 : decode cX5_works 13 = .ok (.aload_n 0, 1) := by decide +kernel
theorem dX5_works_14 : decode cX5_works 14 = .ok (.getfield 13, 3) := by decide +kernel
theorem dX5_works_17 : decode cX5_works 17 = .ok (.iconst 3, 1) := by decide +kernel
theorem dX5_works_18 : decode cX5_works 18 = .ok (.aload_n 0, 1) := by decide +kernel
theorem dX5_works_19 : decode cX5_works 19 = .ok (.iload_n 1, 1) := by decide +kernel
theorem dX5_works_20 : decode cX5_works 20 = .ok (.invokevirtual 86, 3) := by decide +kernel
theorem dX5_works_23 : decode cX5_works 23 = .ok (.imul, 1) := by decide +kernel
theorem dX5_works_24 : decode cX5_works 24 = .ok (.iconst 1, 1) := by decide +kernel
theorem dX5_works_25 : decode cX5_works 25 = .ok (.iadd, 1) := by decide +kernel
theorem dX5_works_26 : decode cX5_works 26 = .ok (.iaload, 1) := by decide +kernel
theorem dX5_works_27 : decode cX5_works 27 = .ok (.imul, 1) := by decide +kernel
theorem dX5_works_28 : decode cX5_works 28 = .ok (.iconst 2, 1) := by decide +kernel
