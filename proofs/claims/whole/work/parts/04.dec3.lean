theorem dX5_works_29 : decode cX5_works 29 = .ok (.iadd, 1) := by decide +kernel
theorem dX5_works_30 : decode cX5_works 30 = .ok (.iaload, 1) := by decide +kernel
theorem dX5_works_31 : decode cX5_works 31 = .ok (.ifCond .ne 7, 3) := by decide +kernel
theorem dX5_works_34 : decode cX5_works 34 = .ok (.iconst 1, 1) := by decide +kernel
theorem dX5_works_35 : decode cX5_works 35 = .ok (.goto 4, 3) := by decide +kernel
theorem dX5_works_38 : decode cX5_works 38 = .ok (.iconst 0, 1) := by decide +kernel
theorem dX5_works_39 : decode cX5_works 39 = .ok (.ireturn, 1) := by decide +kernel
theorem dX5_guestsAt_0 : decode cX5_guestsAt 0 = .ok (.iconst 0, 1) := by decide +kernel
theorem dX5_guestsAt_1 : decode cX5_guestsAt 1 = .ok (.istore_n 2, 1) := by decide +kernel
theorem dX5_guestsAt_2 : decode cX5_guestsAt 2 = .ok (.iconst 0, 1) := by decide +kernel
theorem dX5_guestsAt_3 : decode cX5_guestsAt 3 = .ok (.istore_n 3, 1) := by decide +kernel
theorem dX5_guestsAt_4 : decode cX5_guestsAt 4 = .ok (.iload_n 3, 1) := by decide +kernel
theorem dX5_guestsAt_5 : decode cX5_guestsAt 5 = .ok (.aload_n 0, 1) := by decide +kernel
theorem dX5_guestsAt_6 : decode cX5_guestsAt 6 = .ok (.getfield 7, 3) := by decide +kernel
theorem dX5_guestsAt_9 : decode cX5_guestsAt 9 = .ok (.iconst 4, 1) := by decide +kernel
theorem dX5_guestsAt_10 : decode cX5_guestsAt 10 = .ok (.iaload, 1) := by decide +kernel
theorem dX5_guestsAt_11 : decode cX5_guestsAt 11 = .ok (.if_icmp .ge 51, 3) := by decide +kernel
theorem dX5_guestsAt_14 : decode cX5_guestsAt 14 = .ok (.iload_n 2, 1) := by decide +kernel
theorem dX5_guestsAt_15 : decode cX5_guestsAt 15 = .ok (.aload_n 0, 1) := by decide +kernel
theorem dX5_guestsAt_16 : decode cX5_guestsAt 16 = .ok (.getfield 25, 3) := by decide +kernel
theorem dX5_guestsAt_19 : decode cX5_guestsAt 19 = .ok (.bipush 7, 2) := by decide +kernel
theorem dX5_guestsAt_21 : decode cX5_guestsAt 21 = .ok (.iload_n 3, 1) := by decide +kernel
theorem dX5_guestsAt_22 : decode cX5_guestsAt 22 = .ok (.imul, 1) := by decide +kernel
theorem dX5_guestsAt_23 : decode cX5_guestsAt 23 = .ok (.iconst 4, 1) := by decide +kernel
theorem dX5_guestsAt_24 : decode cX5_guestsAt 24 = .ok (.iadd, 1) := by decide +kernel
theorem dX5_guestsAt_25 : decode cX5_guestsAt 25 = .ok (.iaload, 1) := by decide +kernel
theorem dX5_guestsAt_26 : decode cX5_guestsAt 26 = .ok (.iload_n 1, 1) := by decide +kernel
theorem dX5_guestsAt_27 : decode cX5_guestsAt 27 = .ok (.if_icmp .ne 26, 3) := by decide +kernel
theorem dX5_guestsAt_30 : decode cX5_guestsAt 30 = .ok (.aload_n 0, 1) := by decide +kernel
theorem dX5_guestsAt_31 : decode cX5_guestsAt 31 = .ok (.getfield 25, 3) := by decide +kernel
theorem dX5_guestsAt_34 : decode cX5_guestsAt 34 = .ok (.bipush 7, 2) := by decide +kernel
theorem dX5_guestsAt_36 : decode cX5_guestsAt 36 = .ok (.iload_n 3, 1) := by decide +kernel
theorem dX5_guestsAt_37 : decode cX5_guestsAt 37 = .ok (.imul, 1) := by decide +kernel
theorem dX5_guestsAt_38 : decode cX5_guestsAt 38 = .ok (.iconst 2, 1) := by decide +kernel
theorem dX5_guestsAt_39 : decode cX5_guestsAt 39 = .ok (.iadd, 1) := by decide +kernel
theorem dX5_guestsAt_40 : decode cX5_guestsAt 40 = .ok (.iaload, 1) := by decide +kernel
theorem dX5_guestsAt_41 : decode cX5_guestsAt 41 = .ok (.iconst 1, 1) := by decide +kernel
theorem dX5_guestsAt_42 : decode cX5_guestsAt 42 = .ok (.iconst 2, 1) := by decide +kernel
theorem dX5_guestsAt_43 : decode cX5_guestsAt 43 = .ok (.invokestatic 37, 3) := by decide +kernel
theorem dX5_guestsAt_46 : decode cX5_guestsAt 46 = .ok (.ifCond .eq 7, 3) := by decide +kernel
theorem dX5_guestsAt_49 : decode cX5_guestsAt 49 = .ok (.iconst 1, 1) := by decide +kernel
theorem dX5_guestsAt_50 : decode cX5_guestsAt 50 = .ok (.goto 4, 3) := by decide +kernel
theorem dX5_guestsAt_53 : decode cX5_guestsAt 53 = .ok (.iconst 0, 1) := by decide +kernel
theorem dX5_guestsAt_54 : decode cX5_guestsAt 54 = .ok (.iadd, 1) := by decide +kernel
theorem dX5_guestsAt_55 : decode cX5_guestsAt 55 = .ok (.istore_n 2, 1) := by decide +kernel
theorem dX5_guestsAt_56 : decode cX5_guestsAt 56 = .ok (.iinc 3 1, 3) := by decide +kernel
theorem dX5_guestsAt_59 : decode cX5_guestsAt 59 = .ok (.goto (-55), 3) := by decide +kernel
theorem dX5_guestsAt_62 : decode cX5_guestsAt 62 = .ok (.iload_n 2, 1) := by decide +kernel
theorem dX5_guestsAt_63 : decode cX5_guestsAt 63 = .ok (.ireturn, 1) := by decide +kernel
theorem dX5_firstAt_0 : decode cX5_firstAt 0 = .ok (.iconst (-1), 1) := by decide +kernel
theorem dX5_firstAt_1 : decode cX5_firstAt 1 = .ok (.istore_n 2, 1) := by decide +kernel
theorem dX5_firstAt_2 : decode cX5_firstAt 2 = .ok (.iconst 0, 1) := by decide +kernel
theorem dX5_firstAt_3 : decode cX5_firstAt 3 = .ok (.istore_n 3, 1) := by decide +kernel
theorem dX5_firstAt_4 : decode cX5_firstAt 4 = .ok (.iload_n 3, 1) := by decide +kernel
theorem dX5_firstAt_5 : decode cX5_firstAt 5 = .ok (.aload_n 0, 1) := by decide +kernel
theorem dX5_firstAt_6 : decode cX5_firstAt 6 = .ok (.getfield 7, 3) := by decide +kernel
theorem dX5_firstAt_9 : decode cX5_firstAt 9 = .ok (.iconst 4, 1) := by decide +kernel
theorem dX5_firstAt_10 : decode cX5_firstAt 10 = .ok (.iaload, 1) := by decide +kernel
theorem dX5_firstAt_11 : decode cX5_firstAt 11 = .ok (.if_icmp .ge 86, 3) := by decide +kernel
theorem dX5_firstAt_14 : decode cX5_firstAt 14 = .ok (.aload_n 0, 1) := by decide +kernel
theorem dX5_firstAt_15 : decode cX5_firstAt 15 = .ok (.getfield 25, 3) := by decide +kernel
theorem dX5_firstAt_18 : decode cX5_firstAt 18 = .ok (.bipush 7, 2) := by decide +kernel
theorem dX5_firstAt_20 : decode cX5_firstAt 20 = .ok (.iload_n 3, 1) := by decide +kernel
theorem dX5_firstAt_21 : decode cX5_firstAt 21 = .ok (.imul, 1) := by decide +kernel
theorem dX5_firstAt_22 : decode cX5_firstAt 22 = .ok (.iconst 4, 1) := by decide +kernel
theorem dX5_firstAt_23 : decode cX5_firstAt 23 = .ok (.iadd, 1) := by decide +kernel
theorem dX5_firstAt_24 : decode cX5_firstAt 24 = .ok (.iaload, 1) := by decide +kernel
theorem dX5_firstAt_25 : decode cX5_firstAt 25 = .ok (.iload_n 1, 1) := by decide +kernel
theorem dX5_firstAt_26 : decode cX5_firstAt 26 = .ok (.if_icmp .ne 22, 3) := by decide +kernel
theorem dX5_firstAt_29 : decode cX5_firstAt 29 = .ok (.aload_n 0, 1) := by decide +kernel
theorem dX5_firstAt_30 : decode cX5_firstAt 30 = .ok (.getfield 25, 3) := by decide +kernel
theorem dX5_firstAt_33 : decode cX5_firstAt 33 = .ok (.bipush 7, 2) := by decide +kernel
theorem dX5_firstAt_35 : decode cX5_firstAt 35 = .ok (.iload_n 3, 1) := by decide +kernel
theorem dX5_firstAt_36 : decode cX5_firstAt 36 = .ok (.imul, 1) := by decide +kernel
theorem dX5_firstAt_37 : decode cX5_firstAt 37 = .ok (.iconst 2, 1) := by decide +kernel
theorem dX5_firstAt_38 : decode cX5_firstAt 38 = .ok (.iadd, 1) := by decide +kernel
theorem dX5_firstAt_39 : decode cX5_firstAt 39 = .ok (.iaload, 1) := by decide +kernel
theorem dX5_firstAt_40 : decode cX5_firstAt 40 = .ok (.iconst 1, 1) := by decide +kernel
theorem dX5_firstAt_41 : decode cX5_firstAt 41 = .ok (.if_icmp .ne 7, 3) := by decide +kernel
theorem dX5_firstAt_44 : decode cX5_firstAt 44 = .ok (.iconst 1, 1) := by decide +kernel
theorem dX5_firstAt_45 : decode cX5_firstAt 45 = .ok (.goto 4, 3) := by decide +kernel
theorem dX5_firstAt_48 : decode cX5_firstAt 48 = .ok (.iconst 0, 1) := by decide +kernel
theorem dX5_firstAt_49 : decode cX5_firstAt 49 = .ok (.istore 4, 2) := by decide +kernel
theorem dX5_firstAt_51 : decode cX5_firstAt 51 = .ok (.iload 4, 2) := by decide +kernel
theorem dX5_firstAt_53 : decode cX5_firstAt 53 = .ok (.ifCond .eq 36, 3) := by decide +kernel
theorem dX5_firstAt_56 : decode cX5_firstAt 56 = .ok (.iload_n 2, 1) := by decide +kernel
theorem dX5_firstAt_57 : decode cX5_firstAt 57 = .ok (.ifCond .lt 28, 3) := by decide +kernel
theorem dX5_firstAt_60 : decode cX5_firstAt 60 = .ok (.aload_n 0, 1) := by decide +kernel
theorem dX5_firstAt_61 : decode cX5_firstAt 61 = .ok (.getfield 25, 3) := by decide +kernel
theorem dX5_firstAt_64 : decode cX5_firstAt 64 = .ok (.bipush 7, 2) := by decide +kernel
theorem dX5_firstAt_66 : decode cX5_firstAt 66 = .ok (.iload_n 3, 1) := by decide +kernel
theorem dX5_firstAt_67 : decode cX5_firstAt 67 = .ok (.imul, 1) := by decide +kernel
theorem dX5_firstAt_68 : decode cX5_firstAt 68 = .ok (.iconst 5, 1) := by decide +kernel
theorem dX5_firstAt_69 : decode cX5_firstAt 69 = .ok (.iadd, 1) := by decide +kernel
theorem dX5_firstAt_70 : decode cX5_firstAt 70 = .ok (.iaload, 1) := by decide +kernel
theorem dX5_firstAt_71 : decode cX5_firstAt 71 = .ok (.aload_n 0, 1) := by decide +kernel
theorem dX5_firstAt_72 : decode cX5_firstAt 72 = .ok (.getfield 25, 3) := by decide +kernel
theorem dX5_firstAt_75 : decode cX5_firstAt 75 = .ok (.bipush 7, 2) := by decide +kernel
theorem dX5_firstAt_77 : decode cX5_firstAt 77 = .ok (.iload_n 2, 1) := by decide +kernel
theorem dX5_firstAt_78 : decode cX5_firstAt 78 = .ok (.imul, 1) := by decide +kernel
theorem dX5_firstAt_79 : decode cX5_firstAt 79 = .ok (.iconst 5, 1) := by decide +kernel
theorem dX5_firstAt_80 : decode cX5_firstAt 80 = .ok (.iadd, 1) := by decide +kernel
theorem dX5_firstAt_81 : decode cX5_firstAt 81 = .ok (.iaload, 1) := by decide +kernel
theorem dX5_firstAt_82 : decode cX5_firstAt 82 = .ok (.if_icmp .ge 7, 3) := by decide +kernel
theorem dX5_firstAt_85 : decode cX5_firstAt 85 = .ok (.iload_n 3, 1) := by decide +kernel
theorem dX5_firstAt_86 : decode cX5_firstAt 86 = .ok (.goto 4, 3) := by decide +kernel
theorem dX5_firstAt_89 : decode cX5_firstAt 89 = .ok (.iload_n 2, 1) := by decide +kernel
theorem dX5_firstAt_90 : decode cX5_firstAt 90 = .ok (.istore_n 2, 1) := by decide +kernel
theorem dX5_firstAt_91 : decode cX5_firstAt 91 = .ok (.iinc 3 1, 3) := by decide +kernel
theorem dX5_firstAt_94 : decode cX5_firstAt 94 = .ok (.goto (-90), 3) := by decide +kernel
theorem dX5_firstAt_97 : decode cX5_firstAt 97 = .ok (.iload_n 2, 1) := by decide +kernel
theorem dX5_firstAt_98 : decode cX5_firstAt 98 = .ok (.ireturn, 1) := by decide +kernel
theorem dX5_cooks_0 : decode cX5_cooks 0 = .ok (.bipush 11, 2) := by decide +kernel
theorem dX5_cooks_2 : decode cX5_cooks 2 = .ok (.iload_n 1, 1) := by decide +kernel
theorem dX5_cooks_3 : decode cX5_cooks 3 = .ok (.imul, 1) := by decide +kernel
theorem dX5_cooks_4 : decode cX5_cooks 4 = .ok (.istore_n 2, 1) := by decide +kernel
theorem dX5_cooks_5 : decode cX5_cooks 5 = .ok (.aload_n 0, 1) := by decide +kernel
theorem dX5_cooks_6 : decode cX5_cooks 6 = .ok (.getfield 22, 3) := by decide +kernel
theorem dX5_cooks_9 : decode cX5_cooks 9 = .ok (.iload_n 2, 1) := by decide +kernel
theorem dX5_cooks_10 : decode cX5_cooks 10 = .ok (.bipush 9, 2) := by decide +kernel
theorem dX5_cooks_12 : decode cX5_cooks 12 = .ok (.iadd, 1) := by decide +kernel
theorem dX5_cooks_13 : decode cX5_cooks 13 = .ok (.iaload, 1) := by decide +kernel
theorem dX5_cooks_14 : decode cX5_cooks 14 = .ok (.ifCond .eq 11, 3) := by decide +kernel
theorem dX5_cooks_17 : decode cX5_cooks 17 = .ok (.aload_n 0, 1) := by decide +kernel
theorem dX5_cooks_18 : decode cX5_cooks 18 = .ok (.iload_n 1, 1) := by decide +kernel
theorem dX5_cooks_19 : decode cX5_cooks 19 = .ok (.invokevirtual 94, 3) := by decide +kernel
theorem dX5_cooks_22 : decode cX5_cooks 22 = .ok (.ifCond .ne 5, 3) := by decide +kernel
theorem dX5_cooks_25 : decode cX5_cooks 25 = .ok (.iconst 0, 1) := by decide +kernel
theorem dX5_cooks_26 : decode cX5_cooks 26 = .ok (.ireturn, 1) := by decide +kernel
theorem dX5_cooks_27 : decode cX5_cooks 27 = .ok (.aload_n 0, 1) := by decide +kernel
theorem dX5_cooks_28 : decode cX5_cooks 28 = .ok (.getfield 22, 3) := by decide +kernel
theorem dX5_cooks_31 : decode cX5_cooks 31 = .ok (.iload_n 2, 1) := by decide +kernel
theorem dX5_cooks_32 : decode cX5_cooks 32 = .ok (.bipush 9, 2) := by decide +kernel
theorem dX5_cooks_34 : decode cX5_cooks 34 = .ok (.iadd, 1) := by decide +kernel
theorem dX5_cooks_35 : decode cX5_cooks 35 = .ok (.dup2, 1) := by decide +kernel
theorem dX5_cooks_36 : decode cX5_cooks 36 = .ok (.iaload, 1) := by decide +kernel
theorem dX5_cooks_37 : decode cX5_cooks 37 = .ok (.iconst 1, 1) := by decide +kernel
theorem dX5_cooks_38 : decode cX5_cooks 38 = .ok (.isub, 1) := by decide +kernel
theorem dX5_cooks_39 : decode cX5_cooks 39 = .ok (.iastore, 1) := by decide +kernel
theorem dX5_cooks_40 : decode cX5_cooks 40 = .ok (.aload_n 0, 1) := by decide +kernel
theorem dX5_cooks_41 : decode cX5_cooks 41 = .ok (.getfield 22, 3) := by decide +kernel
theorem dX5_cooks_44 : decode cX5_cooks 44 = .ok (.iload_n 2, 1) := by decide +kernel
theorem dX5_cooks_45 : decode cX5_cooks 45 = .ok (.bipush 9, 2) := by decide +kernel
theorem dX5_cooks_47 : decode cX5_cooks 47 = .ok (.iadd, 1) := by decide +kernel
theorem dX5_cooks_48 : decode cX5_cooks 48 = .ok (.iaload, 1) := by decide +kernel
theorem dX5_cooks_49 : decode cX5_cooks 49 = .ok (.ifCond .le 5, 3) := by decide +kernel
theorem dX5_cooks_52 : decode cX5_cooks 52 = .ok (.iconst 0, 1) := by decide +kernel
theorem dX5_cooks_53 : decode cX5_cooks 53 = .ok (.ireturn, 1) := by decide +kernel
theorem dX5_cooks_54 : decode cX5_cooks 54 = .ok (.aload_n 0, 1) := by decide +kernel
theorem dX5_cooks_55 : decode cX5_cooks 55 = .ok (.getfield 22, 3) := by decide +kernel
theorem dX5_cooks_58 : decode cX5_cooks 58 = .ok (.iload_n 2, 1) := by decide +kernel
theorem dX5_cooks_59 : decode cX5_cooks 59 = .ok (.bipush 10, 2) := by decide +kernel
theorem dX5_cooks_61 : decode cX5_cooks 61 = .ok (.iadd, 1) := by decide +kernel
theorem dX5_cooks_62 : decode cX5_cooks 62 = .ok (.iaload, 1) := by decide +kernel
theorem dX5_cooks_63 : decode cX5_cooks 63 = .ok (.istore_n 3, 1) := by decide +kernel
theorem dX5_cooks_64 : decode cX5_cooks 64 = .ok (.aload_n 0, 1) := by decide +kernel
theorem dX5_cooks_65 : decode cX5_cooks 65 = .ok (.getfield 25, 3) := by decide +kernel
theorem dX5_cooks_68 : decode cX5_cooks 68 = .ok (.bipush 7, 2) := by decide +kernel
theorem dX5_cooks_70 : decode cX5_cooks 70 = .ok (.iload_n 3, 1) := by decide +kernel
theorem dX5_cooks_71 : decode cX5_cooks 71 = .ok (.imul, 1) := by decide +kernel
theorem dX5_cooks_72 : decode cX5_cooks 72 = .ok (.iconst 2, 1) := by decide +kernel
theorem dX5_cooks_73 : decode cX5_cooks 73 = .ok (.iadd, 1) := by decide +kernel
theorem dX5_cooks_74 : decode cX5_cooks 74 = .ok (.iconst 3, 1) := by decide +kernel
theorem dX5_cooks_75 : decode cX5_cooks 75 = .ok (.iastore, 1) := by decide +kernel
theorem dX5_cooks_76 : decode cX5_cooks 76 = .ok (.aload_n 0, 1) := by decide +kernel
theorem dX5_cooks_77 : decode cX5_cooks 77 = .ok (.getfield 25, 3) := by decide +kernel
theorem dX5_cooks_80 : decode cX5_cooks 80 = .ok (.bipush 7, 2) := by decide +kernel
theorem dX5_cooks_82 : decode cX5_cooks 82 = .ok (.iload_n 3, 1) := by decide +kernel
theorem dX5_cooks_83 : decode cX5_cooks 83 = .ok (.imul, 1) := by decide +kernel
theorem dX5_cooks_84 : decode cX5_cooks 84 = .ok (.bipush 6, 2) := by decide +kernel
theorem dX5_cooks_86 : decode cX5_cooks 86 = .ok (.iadd, 1) := by decide +kernel
theorem dX5_cooks_87 : decode cX5_cooks 87 = .ok (.aload_n 0, 1) := by decide +kernel
theorem dX5_cooks_88 : decode cX5_cooks 88 = .ok (.getfield 7, 3) := by decide +kernel
theorem dX5_cooks_91 : decode cX5_cooks 91 = .ok (.iconst 3, 1) := by decide +kernel
theorem dX5_cooks_92 : decode cX5_cooks 92 = .ok (.iaload, 1) := by decide +kernel
theorem dX5_cooks_93 : decode cX5_cooks 93 = .ok (.iastore, 1) := by decide +kernel
theorem dX5_cooks_94 : decode cX5_cooks 94 = .ok (.aload_n 0, 1) := by decide +kernel
theorem dX5_cooks_95 : decode cX5_cooks 95 = .ok (.getfield 22, 3) := by decide +kernel
theorem dX5_cooks_98 : decode cX5_cooks 98 = .ok (.iload_n 2, 1) := by decide +kernel
theorem dX5_cooks_99 : decode cX5_cooks 99 = .ok (.bipush 10, 2) := by decide +kernel
theorem dX5_cooks_101 : decode cX5_cooks 101 = .ok (.iadd, 1) := by decide +kernel
theorem dX5_cooks_102 : decode cX5_cooks 102 = .ok (.iconst (-1), 1) := by decide +kernel
theorem dX5_cooks_103 : decode cX5_cooks 103 = .ok (.iastore, 1) := by decide +kernel
theorem dX5_cooks_104 : decode cX5_cooks 104 = .ok (.aload_n 0, 1) := by decide +kernel
theorem dX5_cooks_105 : decode cX5_cooks 105 = .ok (.getfield 22, 3) := by decide +kernel
theorem dX5_cooks_108 : decode cX5_cooks 108 = .ok (.iload_n 2, 1) := by decide +kernel
theorem dX5_cooks_109 : decode cX5_cooks 109 = .ok (.bipush 7, 2) := by decide +kernel
theorem dX5_cooks_111 : decode cX5_cooks 111 = .ok (.iadd, 1) := by decide +kernel
theorem dX5_cooks_112 : decode cX5_cooks 112 = .ok (.dup2, 1) := by decide +kernel
theorem dX5_cooks_113 : decode cX5_cooks 113 = .ok (.iaload, 1) := by decide +kernel
theorem dX5_cooks_114 : decode cX5_cooks 114 = .ok (.iconst 1, 1) := by decide +kernel
theorem dX5_cooks_115 : decode cX5_cooks 115 = .ok (.iadd, 1) := by decide +kernel
theorem dX5_cooks_116 : decode cX5_cooks 116 = .ok (.iastore, 1) := by decide +kernel
theorem dX5_cooks_117 : decode cX5_cooks 117 = .ok (.aload_n 0, 1) := by decide +kernel
theorem dX5_cooks_118 : decode cX5_cooks 118 = .ok (.getfield 22, 3) := by decide +kernel
theorem dX5_cooks_121 : decode cX5_cooks 121 = .ok (.iload_n 2, 1) := by decide +kernel
theorem dX5_cooks_122 : decode cX5_cooks 122 = .ok (.bipush 8, 2) := by decide +kernel
theorem dX5_cooks_124 : decode cX5_cooks 124 = .ok (.iadd, 1) := by decide +kernel
theorem dX5_cooks_125 : decode cX5_cooks 125 = .ok (.dup2, 1) := by decide +kernel
theorem dX5_cooks_126 : decode cX5_cooks 126 = .ok (.iaload, 1) := by decide +kernel
theorem dX5_cooks_127 : decode cX5_cooks 127 = .ok (.aload_n 0, 1) := by decide +kernel
theorem dX5_cooks_128 : decode cX5_cooks 128 = .ok (.getfield 22, 3) := by decide +kernel
theorem dX5_cooks_131 : decode cX5_cooks 131 = .ok (.iload_n 2, 1) := by decide +kernel
theorem dX5_cooks_132 : decode cX5_cooks 132 = .ok (.iconst 4, 1) := by decide +kernel
theorem dX5_cooks_133 : decode cX5_cooks 133 = .ok (.iadd, 1) := by decide +kernel
theorem dX5_cooks_134 : decode cX5_cooks 134 = .ok (.iaload, 1) := by decide +kernel
theorem dX5_cooks_135 : decode cX5_cooks 135 = .ok (.iadd, 1) := by decide +kernel
theorem dX5_cooks_136 : decode cX5_cooks 136 = .ok (.iastore, 1) := by decide +kernel
theorem dX5_cooks_137 : decode cX5_cooks 137 = .ok (.iconst 1, 1) := by decide +kernel
theorem dX5_cooks_138 : decode cX5_cooks 138 = .ok (.ireturn, 1) := by decide +kernel
theorem dX5_begins_0 : decode cX5_begins 0 = .ok (.bipush 11, 2) := by decide +kernel
theorem dX5_begins_2 : decode cX5_begins 2 = .ok (.iload_n 1, 1) := by decide +kernel
theorem dX5_begins_3 : decode cX5_begins 3 = .ok (.imul, 1) := by decide +kernel
theorem dX5_begins_4 : decode cX5_begins 4 = .ok (.istore_n 2, 1) := by decide +kernel
theorem dX5_begins_5 : decode cX5_begins 5 = .ok (.aload_n 0, 1) := by decide +kernel
theorem dX5_begins_6 : decode cX5_begins 6 = .ok (.getfield 22, 3) := by decide +kernel
theorem dX5_begins_9 : decode cX5_begins 9 = .ok (.iload_n 2, 1) := by decide +kernel
theorem dX5_begins_10 : decode cX5_begins 10 = .ok (.bipush 9, 2) := by decide +kernel
theorem dX5_begins_12 : decode cX5_begins 12 = .ok (.iadd, 1) := by decide +kernel
theorem dX5_begins_13 : decode cX5_begins 13 = .ok (.iaload, 1) := by decide +kernel
theorem dX5_begins_14 : decode cX5_begins 14 = .ok (.ifCond .gt 11, 3) := by decide +kernel
theorem dX5_begins_17 : decode cX5_begins 17 = .ok (.aload_n 0, 1) := by decide +kernel
theorem dX5_begins_18 : decode cX5_begins 18 = .ok (.iload_n 1, 1) := by decide +kernel
theorem dX5_begins_19 : decode cX5_begins 19 = .ok (.invokevirtual 94, 3) := by decide +kernel
theorem dX5_begins_22 : decode cX5_begins 22 = .ok (.ifCond .ne 4, 3) := by decide +kernel
theorem dX5_begins_25 : decode cX5_begins 25 = .ok (.return_, 1) := by decide +kernel
theorem dX5_begins_26 : decode cX5_begins 26 = .ok (.aload_n 0, 1) := by decide +kernel
theorem dX5_begins_27 : decode cX5_begins 27 = .ok (.iload_n 1, 1) := by decide +kernel
theorem dX5_begins_28 : decode cX5_begins 28 = .ok (.invokevirtual 97, 3) := by decide +kernel
theorem dX5_begins_31 : decode cX5_begins 31 = .ok (.istore_n 3, 1) := by decide +kernel
theorem dX5_begins_32 : decode cX5_begins 32 = .ok (.iload_n 3, 1) := by decide +kernel
theorem dX5_begins_33 : decode cX5_begins 33 = .ok (.ifCond .lt 42, 3) := by decide +kernel
theorem dX5_begins_36 : decode cX5_begins 36 = .ok (.aload_n 0, 1) := by decide +kernel
theorem dX5_begins_37 : decode cX5_begins 37 = .ok (.getfield 22, 3) := by decide +kernel
theorem dX5_begins_40 : decode cX5_begins 40 = .ok (.iload_n 2, 1) := by decide +kernel
theorem dX5_begins_41 : decode cX5_begins 41 = .ok (.bipush 9, 2) := by decide +kernel
theorem dX5_begins_43 : decode cX5_begins 43 = .ok (.iadd, 1) := by decide +kernel
theorem dX5_begins_44 : decode cX5_begins 44 = .ok (.aload_n 0, 1) := by decide +kernel
theorem dX5_begins_45 : decode cX5_begins 45 = .ok (.getfield 22, 3) := by decide +kernel
theorem dX5_begins_48 : decode cX5_begins 48 = .ok (.iload_n 2, 1) := by decide +kernel
theorem dX5_begins_49 : decode cX5_begins 49 = .ok (.iconst 3, 1) := by decide +kernel
theorem dX5_begins_50 : decode cX5_begins 50 = .ok (.iadd, 1) := by decide +kernel
theorem dX5_begins_51 : decode cX5_begins 51 = .ok (.iaload, 1) := by decide +kernel
theorem dX5_begins_52 : decode cX5_begins 52 = .ok (.iastore, 1) := by decide +kernel
theorem dX5_begins_53 : decode cX5_begins 53 = .ok (.aload_n 0, 1) := by decide +kernel
theorem dX5_begins_54 : decode cX5_begins 54 = .ok (.getfield 22, 3) := by decide +kernel
theorem dX5_begins_57 : decode cX5_begins 57 = .ok (.iload_n 2, 1) := by decide +kernel
theorem dX5_begins_58 : decode cX5_begins 58 = .ok (.bipush 10, 2) := by decide +kernel
theorem dX5_begins_60 : decode cX5_begins 60 = .ok (.iadd, 1) := by decide +kernel
theorem dX5_begins_61 : decode cX5_begins 61 = .ok (.iload_n 3, 1) := by decide +kernel
theorem dX5_begins_62 : decode cX5_begins 62 = .ok (.iastore, 1) := by decide +kernel
theorem dX5_begins_63 : decode cX5_begins 63 = .ok (.aload_n 0, 1) := by decide +kernel
theorem dX5_begins_64 : decode cX5_begins 64 = .ok (.getfield 25, 3) := by decide +kernel
theorem dX5_begins_67 : decode cX5_begins 67 = .ok (.bipush 7, 2) := by decide +kernel
theorem dX5_begins_69 : decode cX5_begins 69 = .ok (.iload_n 3, 1) := by decide +kernel
theorem dX5_begins_70 : decode cX5_begins 70 = .ok (.imul, 1) := by decide +kernel
theorem dX5_begins_71 : decode cX5_begins 71 = .ok (.iconst 2, 1) := by decide +kernel
theorem dX5_begins_72 : decode cX5_begins 72 = .ok (.iadd, 1) := by decide +kernel
theorem dX5_begins_73 : decode cX5_begins 73 = .ok (.iconst 2, 1) := by decide +kernel
theorem dX5_begins_74 : decode cX5_begins 74 = .ok (.iastore, 1) := by decide +kernel
theorem dX5_begins_75 : decode cX5_begins 75 = .ok (.return_, 1) := by decide +kernel
theorem dX5_walks_0 : decode cX5_walks 0 = .ok (.bipush 7, 2) := by decide +kernel
theorem dX5_walks_2 : decode cX5_walks 2 = .ok (.iload_n 1, 1) := by decide +kernel
theorem dX5_walks_3 : decode cX5_walks 3 = .ok (.imul, 1) := by decide +kernel
theorem dX5_walks_4 : decode cX5_walks 4 = .ok (.istore_n 2, 1) := by decide +kernel
theorem dX5_walks_5 : decode cX5_walks 5 = .ok (.iconst (-1), 1) := by decide +kernel
theorem dX5_walks_6 : decode cX5_walks 6 = .ok (.istore_n 3, 1) := by decide +kernel
theorem dX5_walks_7 : decode cX5_walks 7 = .ok (.iconst 0, 1) := by decide +kernel
theorem dX5_walks_8 : decode cX5_walks 8 = .ok (.istore 4, 2) := by decide +kernel
theorem dX5_walks_10 : decode cX5_walks 10 = .ok (.iload 4, 2) := by decide +kernel
theorem dX5_walks_12 : decode cX5_walks 12 = .ok (.aload_n 0, 1) := by decide +kernel
theorem dX5_walks_13 : decode cX5_walks 13 = .ok (.getfield 7, 3) := by decide +kernel
theorem dX5_walks_16 : decode cX5_walks 16 = .ok (.iconst 1, 1) := by decide +kernel
theorem dX5_walks_17 : decode cX5_walks 17 = .ok (.iaload, 1) := by decide +kernel
theorem dX5_walks_18 : decode cX5_walks 18 = .ok (.if_icmp .ge 83, 3) := by decide +kernel
theorem dX5_walks_21 : decode cX5_walks 21 = .ok (.aload_n 0, 1) := by decide +kernel
theorem dX5_walks_22 : decode cX5_walks 22 = .ok (.iload 4, 2) := by decide +kernel
theorem dX5_walks_24 : decode cX5_walks 24 = .ok (.invokevirtual 94, 3) := by decide +kernel
theorem dX5_walks_27 : decode cX5_walks 27 = .ok (.ifCond .eq 53, 3) := by decide +kernel
theorem dX5_walks_30 : decode cX5_walks 30 = .ok (.aload_n 0, 1) := by decide +kernel
theorem dX5_walks_31 : decode cX5_walks 31 = .ok (.iload 4, 2) := by decide +kernel
theorem dX5_walks_33 : decode cX5_walks 33 = .ok (.invokevirtual 86, 3) := by decide +kernel
theorem dX5_walks_36 : decode cX5_walks 36 = .ok (.aload_n 0, 1) := by decide +kernel
theorem dX5_walks_37 : decode cX5_walks 37 = .ok (.getfield 25, 3) := by decide +kernel
theorem dX5_walks_40 : decode cX5_walks 40 = .ok (.iload_n 2, 1) := by decide +kernel
theorem dX5_walks_41 : decode cX5_walks 41 = .ok (.iconst 3, 1) := by decide +kernel
theorem dX5_walks_42 : decode cX5_walks 42 = .ok (.iadd, 1) := by decide +kernel
theorem dX5_walks_43 : decode cX5_walks 43 = .ok (.iaload, 1) := by decide +kernel
theorem dX5_walks_44 : decode cX5_walks 44 = .ok (.if_icmp .ne 36, 3) := by decide +kernel
theorem dX5_walks_47 : decode cX5_walks 47 = .ok (.aload_n 0, 1) := by decide +kernel
theorem dX5_walks_48 : decode cX5_walks 48 = .ok (.getfield 22, 3) := by decide +kernel
theorem dX5_walks_51 : decode cX5_walks 51 = .ok (.bipush 11, 2) := by decide +kernel
theorem dX5_walks_53 : decode cX5_walks 53 = .ok (.iload 4, 2) := by decide +kernel
theorem dX5_walks_55 : decode cX5_walks 55 = .ok (.imul, 1) := by decide +kernel
theorem dX5_walks_56 : decode cX5_walks 56 = .ok (.iaload, 1) := by decide +kernel
theorem dX5_walks_57 : decode cX5_walks 57 = .ok (.aload_n 0, 1) := by decide +kernel
theorem dX5_walks_58 : decode cX5_walks 58 = .ok (.getfield 25, 3) := by decide +kernel
theorem dX5_walks_61 : decode cX5_walks 61 = .ok (.iload_n 2, 1) := by decide +kernel
theorem dX5_walks_62 : decode cX5_walks 62 = .ok (.iaload, 1) := by decide +kernel
theorem dX5_walks_63 : decode cX5_walks 63 = .ok (.if_icmp .ne 17, 3) := by decide +kernel
theorem dX5_walks_66 : decode cX5_walks 66 = .ok (.aload_n 0, 1) := by decide +kernel
theorem dX5_walks_67 : decode cX5_walks 67 = .ok (.iload 4, 2) := by decide +kernel
theorem dX5_walks_69 : decode cX5_walks 69 = .ok (.invokevirtual 100, 3) := by decide +kernel
theorem dX5_walks_72 : decode cX5_walks 72 = .ok (.iconst 3, 1) := by decide +kernel
theorem dX5_walks_73 : decode cX5_walks 73 = .ok (.if_icmp .ge 7, 3) := by decide +kernel
theorem dX5_walks_76 : decode cX5_walks 76 = .ok (.iconst 1, 1) := by decide +kernel
theorem dX5_walks_77 : decode cX5_walks 77 = .ok (.goto 4, 3) := by decide +kernel
theorem dX5_walks_80 : decode cX5_walks 80 = .ok (.iconst 0, 1) := by decide +kernel
theorem dX5_walks_81 : decode cX5_walks 81 = .ok (.istore 5, 2) := by decide +kernel
theorem dX5_walks_83 : decode cX5_walks 83 = .ok (.iload 5, 2) := by decide +kernel
theorem dX5_walks_85 : decode cX5_walks 85 = .ok (.ifCond .eq 8, 3) := by decide +kernel
theorem dX5_walks_88 : decode cX5_walks 88 = .ok (.iload 4, 2) := by decide +kernel
theorem dX5_walks_90 : decode cX5_walks 90 = .ok (.goto 4, 3) := by decide +kernel
theorem dX5_walks_93 : decode cX5_walks 93 = .ok (.iload_n 3, 1) := by decide +kernel
theorem dX5_walks_94 : decode cX5_walks 94 = .ok (.istore_n 3, 1) := by decide +kernel
theorem dX5_walks_95 : decode cX5_walks 95 = .ok (.iinc 4 1, 3) := by decide +kernel
theorem dX5_walks_98 : decode cX5_walks 98 = .ok (.goto (-88), 3) := by decide +kernel
theorem dX5_walks_101 : decode cX5_walks 101 = .ok (.iload_n 3, 1) := by decide +kernel
theorem dX5_walks_102 : decode cX5_walks 102 = .ok (.ifCond .lt 48, 3) := by decide +kernel
theorem dX5_walks_105 : decode cX5_walks 105 = .ok (.aload_n 0, 1) := by decide +kernel
theorem dX5_walks_106 : decode cX5_walks 106 = .ok (.getfield 25, 3) := by decide +kernel
theorem dX5_walks_109 : decode cX5_walks 109 = .ok (.iload_n 2, 1) := by decide +kernel
theorem dX5_walks_110 : decode cX5_walks 110 = .ok (.iconst 2, 1) := by decide +kernel
theorem dX5_walks_111 : decode cX5_walks 111 = .ok (.iadd, 1) := by decide +kernel
theorem dX5_walks_112 : decode cX5_walks 112 = .ok (.iconst 1, 1) := by decide +kernel
theorem dX5_walks_113 : decode cX5_walks 113 = .ok (.iastore, 1) := by decide +kernel
theorem dX5_walks_114 : decode cX5_walks 114 = .ok (.aload_n 0, 1) := by decide +kernel
theorem dX5_walks_115 : decode cX5_walks 115 = .ok (.getfield 25, 3) := by decide +kernel
theorem dX5_walks_118 : decode cX5_walks 118 = .ok (.iload_n 2, 1) := by decide +kernel
theorem dX5_walks_119 : decode cX5_walks 119 = .ok (.iconst 4, 1) := by decide +kernel
theorem dX5_walks_120 : decode cX5_walks 120 = .ok (.iadd, 1) := by decide +kernel
theorem dX5_walks_121 : decode cX5_walks 121 = .ok (.iload_n 3, 1) := by decide +kernel
theorem dX5_walks_122 : decode cX5_walks 122 = .ok (.iastore, 1) := by decide +kernel
theorem dX5_walks_123 : decode cX5_walks 123 = .ok (.aload_n 0, 1) := by decide +kernel
theorem dX5_walks_124 : decode cX5_walks 124 = .ok (.getfield 7, 3) := by decide +kernel
theorem dX5_walks_127 : decode cX5_walks 127 = .ok (.bipush 7, 2) := by decide +kernel
theorem dX5_walks_129 : decode cX5_walks 129 = .ok (.dup2, 1) := by decide +kernel
theorem dX5_walks_130 : decode cX5_walks 130 = .ok (.iaload, 1) := by decide +kernel
theorem dX5_walks_131 : decode cX5_walks 131 = .ok (.iconst 1, 1) := by decide +kernel
theorem dX5_walks_132 : decode cX5_walks 132 = .ok (.iadd, 1) := by decide +kernel
theorem dX5_walks_133 : decode cX5_walks 133 = .ok (.iastore, 1) := by decide +kernel
theorem dX5_walks_134 : decode cX5_walks 134 = .ok (.aload_n 0, 1) := by decide +kernel
theorem dX5_walks_135 : decode cX5_walks 135 = .ok (.getfield 25, 3) := by decide +kernel
theorem dX5_walks_138 : decode cX5_walks 138 = .ok (.iload_n 2, 1) := by decide +kernel
theorem dX5_walks_139 : decode cX5_walks 139 = .ok (.iconst 5, 1) := by decide +kernel
theorem dX5_walks_140 : decode cX5_walks 140 = .ok (.iadd, 1) := by decide +kernel
theorem dX5_walks_141 : decode cX5_walks 141 = .ok (.aload_n 0, 1) := by decide +kernel
theorem dX5_walks_142 : decode cX5_walks 142 = .ok (.getfield 7, 3) := by decide +kernel
theorem dX5_walks_145 : decode cX5_walks 145 = .ok (.bipush 7, 2) := by decide +kernel
theorem dX5_walks_147 : decode cX5_walks 147 = .ok (.iaload, 1) := by decide +kernel
theorem dX5_walks_148 : decode cX5_walks 148 = .ok (.iastore, 1) := by decide +kernel
theorem dX5_walks_149 : decode cX5_walks 149 = .ok (.return_, 1) := by decide +kernel
theorem dX5_walks_150 : decode cX5_walks 150 = .ok (.aload_n 0, 1) := by decide +kernel
theorem dX5_walks_151 : decode cX5_walks 151 = .ok (.getfield 25, 3) := by decide +kernel
theorem dX5_walks_154 : decode cX5_walks 154 = .ok (.iload_n 2, 1) := by decide +kernel
theorem dX5_walks_155 : decode cX5_walks 155 = .ok (.iconst 3, 1) := by decide +kernel
theorem dX5_walks_156 : decode cX5_walks 156 = .ok (.iadd, 1) := by decide +kernel
theorem dX5_walks_157 : decode cX5_walks 157 = .ok (.dup2, 1) := by decide +kernel
theorem dX5_walks_158 : decode cX5_walks 158 = .ok (.iaload, 1) := by decide +kernel
theorem dX5_walks_159 : decode cX5_walks 159 = .ok (.iconst 1, 1) := by decide +kernel
theorem dX5_walks_160 : decode cX5_walks 160 = .ok (.iadd, 1) := by decide +kernel
theorem dX5_walks_161 : decode cX5_walks 161 = .ok (.iastore, 1) := by decide +kernel
theorem dX5_walks_162 : decode cX5_walks 162 = .ok (.aload_n 0, 1) := by decide +kernel
theorem dX5_walks_163 : decode cX5_walks 163 = .ok (.getfield 25, 3) := by decide +kernel
theorem dX5_walks_166 : decode cX5_walks 166 = .ok (.iload_n 2, 1) := by decide +kernel
theorem dX5_walks_167 : decode cX5_walks 167 = .ok (.iconst 3, 1) := by decide +kernel
theorem dX5_walks_168 : decode cX5_walks 168 = .ok (.iadd, 1) := by decide +kernel
theorem dX5_walks_169 : decode cX5_walks 169 = .ok (.iaload, 1) := by decide +kernel
theorem dX5_walks_170 : decode cX5_walks 170 = .ok (.aload_n 0, 1) := by decide +kernel
theorem dX5_walks_171 : decode cX5_walks 171 = .ok (.getfield 7, 3) := by decide +kernel
theorem dX5_walks_174 : decode cX5_walks 174 = .ok (.iconst 0, 1) := by decide +kernel
theorem dX5_walks_175 : decode cX5_walks 175 = .ok (.iaload, 1) := by decide +kernel
theorem dX5_walks_176 : decode cX5_walks 176 = .ok (.if_icmp .ne 12, 3) := by decide +kernel
theorem dX5_walks_179 : decode cX5_walks 179 = .ok (.aload_n 0, 1) := by decide +kernel
theorem dX5_walks_180 : decode cX5_walks 180 = .ok (.getfield 25, 3) := by decide +kernel
theorem dX5_walks_183 : decode cX5_walks 183 = .ok (.iload_n 2, 1) := by decide +kernel
theorem dX5_walks_184 : decode cX5_walks 184 = .ok (.iconst 2, 1) := by decide +kernel
theorem dX5_walks_185 : decode cX5_walks 185 = .ok (.iadd, 1) := by decide +kernel
theorem dX5_walks_186 : decode cX5_walks 186 = .ok (.iconst 5, 1) := by decide +kernel
theorem dX5_walks_187 : decode cX5_walks 187 = .ok (.iastore, 1) := by decide +kernel
theorem dX5_walks_188 : decode cX5_walks 188 = .ok (.return_, 1) := by decide +kernel
theorem dX5_tick_0 : decode cX5_tick 0 = .ok (.iconst 0, 1) := by decide +kernel
theorem dX5_tick_1 : decode cX5_tick 1 = .ok (.istore_n 1, 1) := by decide +kernel
theorem dX5_tick_2 : decode cX5_tick 2 = .ok (.iconst 0, 1) := by decide +kernel
theorem dX5_tick_3 : decode cX5_tick 3 = .ok (.istore_n 2, 1) := by decide +kernel
theorem dX5_tick_4 : decode cX5_tick 4 = .ok (.iload_n 2, 1) := by decide +kernel
theorem dX5_tick_5 : decode cX5_tick 5 = .ok (.aload_n 0, 1) := by decide +kernel
theorem dX5_tick_6 : decode cX5_tick 6 = .ok (.getfield 7, 3) := by decide +kernel
theorem dX5_tick_9 : decode cX5_tick 9 = .ok (.iconst 1, 1) := by decide +kernel
theorem dX5_tick_10 : decode cX5_tick 10 = .ok (.iaload, 1) := by decide +kernel
theorem dX5_tick_11 : decode cX5_tick 11 = .ok (.if_icmp .ge 17, 3) := by decide +kernel
theorem dX5_tick_14 : decode cX5_tick 14 = .ok (.iload_n 1, 1) := by decide +kernel
theorem dX5_tick_15 : decode cX5_tick 15 = .ok (.aload_n 0, 1) := by decide +kernel
theorem dX5_tick_16 : decode cX5_tick 16 = .ok (.iload_n 2, 1) := by decide +kernel
theorem dX5_tick_17 : decode cX5_tick 17 = .ok (.invokevirtual 103, 3) := by decide +kernel
theorem dX5_tick_20 : decode cX5_tick 20 = .ok (.iadd, 1) := by decide +kernel
theorem dX5_tick_21 : decode cX5_tick 21 = .ok (.istore_n 1, 1) := by decide +kernel
theorem dX5_tick_22 : decode cX5_tick 22 = .ok (.iinc 2 1, 3) := by decide +kernel
theorem dX5_tick_25 : decode cX5_tick 25 = .ok (.goto (-21), 3) := by decide +kernel
theorem dX5_tick_28 : decode cX5_tick 28 = .ok (.iconst 0, 1) := by decide +kernel
theorem dX5_tick_29 : decode cX5_tick 29 = .ok (.istore_n 2, 1) := by decide +kernel
theorem dX5_tick_30 : decode cX5_tick 30 = .ok (.iload_n 2, 1) := by decide +kernel
theorem dX5_tick_31 : decode cX5_tick 31 = .ok (.aload_n 0, 1) := by decide +kernel
theorem dX5_tick_32 : decode cX5_tick 32 = .ok (.getfield 7, 3) := by decide +kernel
theorem dX5_tick_35 : decode cX5_tick 35 = .ok (.iconst 1, 1) := by decide +kernel
theorem dX5_tick_36 : decode cX5_tick 36 = .ok (.iaload, 1) := by decide +kernel
theorem dX5_tick_37 : decode cX5_tick 37 = .ok (.if_icmp .ge 14, 3) := by decide +kernel
theorem dX5_tick_40 : decode cX5_tick 40 = .ok (.aload_n 0, 1) := by decide +kernel
theorem dX5_tick_41 : decode cX5_tick 41 = .ok (.iload_n 2, 1) := by decide +kernel
theorem dX5_tick_42 : decode cX5_tick 42 = .ok (.invokevirtual 106, 3) := by decide +kernel
theorem dX5_tick_45 : decode cX5_tick 45 = .ok (.iinc 2 1, 3) := by decide +kernel
theorem dX5_tick_48 : decode cX5_tick 48 = .ok (.goto (-18), 3) := by decide +kernel
theorem dX5_tick_51 : decode cX5_tick 51 = .ok (.iconst 0, 1) := by decide +kernel
theorem dX5_tick_52 : decode cX5_tick 52 = .ok (.istore_n 2, 1) := by decide +kernel
theorem dX5_tick_53 : decode cX5_tick 53 = .ok (.iload_n 2, 1) := by decide +kernel
theorem dX5_tick_54 : decode cX5_tick 54 = .ok (.aload_n 0, 1) := by decide +kernel
theorem dX5_tick_55 : decode cX5_tick 55 = .ok (.getfield 7, 3) := by decide +kernel
theorem dX5_tick_58 : decode cX5_tick 58 = .ok (.iconst 4, 1) := by decide +kernel
theorem dX5_tick_59 : decode cX5_tick 59 = .ok (.iaload, 1) := by decide +kernel
theorem dX5_tick_60 : decode cX5_tick 60 = .ok (.if_icmp .ge 69, 3) := by decide +kernel
theorem dX5_tick_63 : decode cX5_tick 63 = .ok (.aload_n 0, 1) := by decide +kernel
theorem dX5_tick_64 : decode cX5_tick 64 = .ok (.getfield 25, 3) := by decide +kernel
theorem dX5_tick_67 : decode cX5_tick 67 = .ok (.bipush 7, 2) := by decide +kernel
theorem dX5_tick_69 : decode cX5_tick 69 = .ok (.iload_n 2, 1) := by decide +kernel
theorem dX5_tick_70 : decode cX5_tick 70 = .ok (.imul, 1) := by decide +kernel
theorem dX5_tick_71 : decode cX5_tick 71 = .ok (.iconst 2, 1) := by decide +kernel
theorem dX5_tick_72 : decode cX5_tick 72 = .ok (.iadd, 1) := by decide +kernel
theorem dX5_tick_73 : decode cX5_tick 73 = .ok (.iaload, 1) := by decide +kernel
theorem dX5_tick_74 : decode cX5_tick 74 = .ok (.iconst 1, 1) := by decide +kernel
theorem dX5_tick_75 : decode cX5_tick 75 = .ok (.if_icmp .ne 48, 3) := by decide +kernel
theorem dX5_tick_78 : decode cX5_tick 78 = .ok (.aload_n 0, 1) := by decide +kernel
theorem dX5_tick_79 : decode cX5_tick 79 = .ok (.getfield 25, 3) := by decide +kernel
theorem dX5_tick_82 : decode cX5_tick 82 = .ok (.bipush 7, 2) := by decide +kernel
theorem dX5_tick_84 : decode cX5_tick 84 = .ok (.iload_n 2, 1) := by decide +kernel
theorem dX5_tick_85 : decode cX5_tick 85 = .ok (.imul, 1) := by decide +kernel
theorem dX5_tick_86 : decode cX5_tick 86 = .ok (.iconst 1, 1) := by decide +kernel
theorem dX5_tick_87 : decode cX5_tick 87 = .ok (.iadd, 1) := by decide +kernel
theorem dX5_tick_88 : decode cX5_tick 88 = .ok (.dup2, 1) := by decide +kernel
theorem dX5_tick_89 : decode cX5_tick 89 = .ok (.iaload, 1) := by decide +kernel
theorem dX5_tick_90 : decode cX5_tick 90 = .ok (.iconst 1, 1) := by decide +kernel
theorem dX5_tick_91 : decode cX5_tick 91 = .ok (.isub, 1) := by decide +kernel
theorem dX5_tick_92 : decode cX5_tick 92 = .ok (.iastore, 1) := by decide +kernel
theorem dX5_tick_93 : decode cX5_tick 93 = .ok (.aload_n 0, 1) := by decide +kernel
theorem dX5_tick_94 : decode cX5_tick 94 = .ok (.getfield 25, 3) := by decide +kernel
theorem dX5_tick_97 : decode cX5_tick 97 = .ok (.bipush 7, 2) := by decide +kernel
theorem dX5_tick_99 : decode cX5_tick 99 = .ok (.iload_n 2, 1) := by decide +kernel
theorem dX5_tick_100 : decode cX5_tick 100 = .ok (.imul, 1) := by decide +kernel
theorem dX5_tick_101 : decode cX5_tick 101 = .ok (.iconst 2, 1) := by decide +kernel
theorem dX5_tick_102 : decode cX5_tick 102 = .ok (.iadd, 1) := by decide +kernel
theorem dX5_tick_103 : decode cX5_tick 103 = .ok (.aload_n 0, 1) := by decide +kernel
theorem dX5_tick_104 : decode cX5_tick 104 = .ok (.getfield 25, 3) := by decide +kernel
theorem dX5_tick_107 : decode cX5_tick 107 = .ok (.bipush 7, 2) := by decide +kernel
theorem dX5_tick_109 : decode cX5_tick 109 = .ok (.iload_n 2, 1) := by decide +kernel
theorem dX5_tick_110 : decode cX5_tick 110 = .ok (.imul, 1) := by decide +kernel
theorem dX5_tick_111 : decode cX5_tick 111 = .ok (.iconst 1, 1) := by decide +kernel
theorem dX5_tick_112 : decode cX5_tick 112 = .ok (.iadd, 1) := by decide +kernel
theorem dX5_tick_113 : decode cX5_tick 113 = .ok (.iaload, 1) := by decide +kernel
theorem dX5_tick_114 : decode cX5_tick 114 = .ok (.ifCond .ne 7, 3) := by decide +kernel
theorem dX5_tick_117 : decode cX5_tick 117 = .ok (.iconst 4, 1) := by decide +kernel
theorem dX5_tick_118 : decode cX5_tick 118 = .ok (.goto 4, 3) := by decide +kernel
theorem dX5_tick_121 : decode cX5_tick 121 = .ok (.iconst 1, 1) := by decide +kernel
theorem dX5_tick_122 : decode cX5_tick 122 = .ok (.iastore, 1) := by decide +kernel
theorem dX5_tick_123 : decode cX5_tick 123 = .ok (.iinc 2 1, 3) := by decide +kernel
theorem dX5_tick_126 : decode cX5_tick 126 = .ok (.goto (-73), 3) := by decide +kernel
theorem dX5_tick_129 : decode cX5_tick 129 = .ok (.iconst 0, 1) := by decide +kernel
theorem dX5_tick_130 : decode cX5_tick 130 = .ok (.istore_n 2, 1) := by decide +kernel
theorem dX5_tick_131 : decode cX5_tick 131 = .ok (.iload_n 2, 1) := by decide +kernel
theorem dX5_tick_132 : decode cX5_tick 132 = .ok (.aload_n 0, 1) := by decide +kernel
theorem dX5_tick_133 : decode cX5_tick 133 = .ok (.getfield 7, 3) := by decide +kernel
theorem dX5_tick_136 : decode cX5_tick 136 = .ok (.iconst 4, 1) := by decide +kernel
theorem dX5_tick_137 : decode cX5_tick 137 = .ok (.iaload, 1) := by decide +kernel
theorem dX5_tick_138 : decode cX5_tick 138 = .ok (.if_icmp .ge 28, 3) := by decide +kernel
theorem dX5_tick_141 : decode cX5_tick 141 = .ok (.aload_n 0, 1) := by decide +kernel
theorem dX5_tick_142 : decode cX5_tick 142 = .ok (.getfield 25, 3) := by decide +kernel
theorem dX5_tick_145 : decode cX5_tick 145 = .ok (.bipush 7, 2) := by decide +kernel
theorem dX5_tick_147 : decode cX5_tick 147 = .ok (.iload_n 2, 1) := by decide +kernel
theorem dX5_tick_148 : decode cX5_tick 148 = .ok (.imul, 1) := by decide +kernel
theorem dX5_tick_149 : decode cX5_tick 149 = .ok (.iconst 2, 1) := by decide +kernel
theorem dX5_tick_150 : decode cX5_tick 150 = .ok (.iadd, 1) := by decide +kernel
theorem dX5_tick_151 : decode cX5_tick 151 = .ok (.iaload, 1) := by decide +kernel
theorem dX5_tick_152 : decode cX5_tick 152 = .ok (.ifCond .ne 8, 3) := by decide +kernel
theorem dX5_tick_155 : decode cX5_tick 155 = .ok (.aload_n 0, 1) := by decide +kernel
theorem dX5_tick_156 : decode cX5_tick 156 = .ok (.iload_n 2, 1) := by decide +kernel
theorem dX5_tick_157 : decode cX5_tick 157 = .ok (.invokevirtual 109, 3) := by decide +kernel
theorem dX5_tick_160 : decode cX5_tick 160 = .ok (.iinc 2 1, 3) := by decide +kernel
theorem dX5_tick_163 : decode cX5_tick 163 = .ok (.goto (-32), 3) := by decide +kernel
theorem dX5_tick_166 : decode cX5_tick 166 = .ok (.aload_n 0, 1) := by decide +kernel
theorem dX5_tick_167 : decode cX5_tick 167 = .ok (.getfield 7, 3) := by decide +kernel
theorem dX5_tick_170 : decode cX5_tick 170 = .ok (.iconst 3, 1) := by decide +kernel
theorem dX5_tick_171 : decode cX5_tick 171 = .ok (.dup2, 1) := by decide +kernel
theorem dX5_tick_172 : decode cX5_tick 172 = .ok (.iaload, 1) := by decide +kernel
theorem dX5_tick_173 : decode cX5_tick 173 = .ok (.iconst 1, 1) := by decide +kernel
theorem dX5_tick_174 : decode cX5_tick 174 = .ok (.iadd, 1) := by decide +kernel
theorem dX5_tick_175 : decode cX5_tick 175 = .ok (.iastore, 1) := by decide +kernel
theorem dX5_tick_176 : decode cX5_tick 176 = .ok (.iload_n 1, 1) := by decide +kernel
theorem dX5_tick_177 : decode cX5_tick 177 = .ok (.ireturn, 1) := by decide +kernel
theorem dX5_go_0 : decode cX5_go 0 = .ok (.aload_n 0, 1) := by decide +kernel
theorem dX5_go_1 : decode cX5_go 1 = .ok (.invokevirtual 41, 3) := by decide +kernel
theorem dX5_go_4 : decode cX5_go 4 = .ok (.ifCond .ne 6, 3) := by decide +kernel
theorem dX5_go_7 : decode cX5_go 7 = .ok (.bipush (-3), 2) := by decide +kernel
theorem dX5_go_9 : decode cX5_go 9 = .ok (.ireturn, 1) := by decide +kernel
theorem dX5_go_10 : decode cX5_go 10 = .ok (.iload_n 1, 1) := by decide +kernel
theorem dX5_go_11 : decode cX5_go 11 = .ok (.iconst 1, 1) := by decide +kernel
theorem dX5_go_12 : decode cX5_go 12 = .ok (.bipush 50, 2) := by decide +kernel
theorem dX5_go_14 : decode cX5_go 14 = .ok (.invokestatic 37, 3) := by decide +kernel
theorem dX5_go_17 : decode cX5_go 17 = .ok (.ifCond .ne 5, 3) := by decide +kernel
theorem dX5_go_20 : decode cX5_go 20 = .ok (.iconst (-1), 1) := by decide +kernel
theorem dX5_go_21 : decode cX5_go 21 = .ok (.ireturn, 1) := by decide +kernel
theorem dX5_go_22 : decode cX5_go 22 = .ok (.iconst 0, 1) := by decide +kernel
theorem dX5_go_23 : decode cX5_go 23 = .ok (.istore_n 2, 1) := by decide +kernel
theorem dX5_go_24 : decode cX5_go 24 = .ok (.iconst 0, 1) := by decide +kernel
theorem dX5_go_25 : decode cX5_go 25 = .ok (.istore_n 3, 1) := by decide +kernel
theorem dX5_go_26 : decode cX5_go 26 = .ok (.iload_n 3, 1) := by decide +kernel
theorem dX5_go_27 : decode cX5_go 27 = .ok (.iload_n 1, 1) := by decide +kernel
theorem dX5_go_28 : decode cX5_go 28 = .ok (.if_icmp .ge 16, 3) := by decide +kernel
theorem dX5_go_31 : decode cX5_go 31 = .ok (.iload_n 2, 1) := by decide +kernel
theorem dX5_go_32 : decode cX5_go 32 = .ok (.aload_n 0, 1) := by decide +kernel
theorem dX5_go_33 : decode cX5_go 33 = .ok (.invokevirtual 112, 3) := by decide +kernel
theorem dX5_go_36 : decode cX5_go 36 = .ok (.iadd, 1) := by decide +kernel
theorem dX5_go_37 : decode cX5_go 37 = .ok (.istore_n 2, 1) := by decide +kernel
theorem dX5_go_38 : decode cX5_go 38 = .ok (.iinc 3 1, 3) := by decide +kernel
theorem dX5_go_41 : decode cX5_go 41 = .ok (.goto (-15), 3) := by decide +kernel
theorem dX5_go_44 : decode cX5_go 44 = .ok (.iload_n 2, 1) := by decide +kernel
theorem dX5_go_45 : decode cX5_go 45 = .ok (.ireturn, 1) := by decide +kernel
theorem dX5_wattsOn_0 : decode cX5_wattsOn 0 = .ok (.iconst 0, 1) := by decide +kernel
theorem dX5_wattsOn_1 : decode cX5_wattsOn 1 = .ok (.istore_n 2, 1) := by decide +kernel
theorem dX5_wattsOn_2 : decode cX5_wattsOn 2 = .ok (.iconst 0, 1) := by decide +kernel
theorem dX5_wattsOn_3 : decode cX5_wattsOn 3 = .ok (.istore_n 3, 1) := by decide +kernel
theorem dX5_wattsOn_4 : decode cX5_wattsOn 4 = .ok (.iload_n 3, 1) := by decide +kernel
theorem dX5_wattsOn_5 : decode cX5_wattsOn 5 = .ok (.aload_n 0, 1) := by decide +kernel
theorem dX5_wattsOn_6 : decode cX5_wattsOn 6 = .ok (.getfield 7, 3) := by decide +kernel
theorem dX5_wattsOn_9 : decode cX5_wattsOn 9 = .ok (.iconst 1, 1) := by decide +kernel
theorem dX5_wattsOn_10 : decode cX5_wattsOn 10 = .ok (.iaload, 1) := by decide +kernel
theorem dX5_wattsOn_11 : decode cX5_wattsOn 11 = .ok (.if_icmp .ge 53, 3) := by decide +kernel
theorem dX5_wattsOn_14 : decode cX5_wattsOn 14 = .ok (.iload_n 2, 1) := by decide +kernel
theorem dX5_wattsOn_15 : decode cX5_wattsOn 15 = .ok (.aload_n 0, 1) := by decide +kernel
theorem dX5_wattsOn_16 : decode cX5_wattsOn 16 = .ok (.iload_n 3, 1) := by decide +kernel
theorem dX5_wattsOn_17 : decode cX5_wattsOn 17 = .ok (.invokevirtual 86, 3) := by decide +kernel
theorem dX5_wattsOn_20 : decode cX5_wattsOn 20 = .ok (.ifCond .lt 35, 3) := by decide +kernel
theorem dX5_wattsOn_23 : decode cX5_wattsOn 23 = .ok (.aload_n 0, 1) := by decide +kernel
theorem dX5_wattsOn_24 : decode cX5_wattsOn 24 = .ok (.getfield 13, 3) := by decide +kernel
theorem dX5_wattsOn_27 : decode cX5_wattsOn 27 = .ok (.iconst 3, 1) := by decide +kernel
theorem dX5_wattsOn_28 : decode cX5_wattsOn 28 = .ok (.aload_n 0, 1) := by decide +kernel
theorem dX5_wattsOn_29 : decode cX5_wattsOn 29 = .ok (.iload_n 3, 1) := by decide +kernel
theorem dX5_wattsOn_30 : decode cX5_wattsOn 30 = .ok (.invokevirtual 86, 3) := by decide +kernel
theorem dX5_wattsOn_33 : decode cX5_wattsOn 33 = .ok (.imul, 1) := by decide +kernel
theorem dX5_wattsOn_34 : decode cX5_wattsOn 34 = .ok (.iconst 1, 1) := by decide +kernel
theorem dX5_wattsOn_35 : decode cX5_wattsOn 35 = .ok (.iadd, 1) := by decide +kernel
theorem dX5_wattsOn_36 : decode cX5_wattsOn 36 = .ok (.iaload, 1) := by decide +kernel
theorem dX5_wattsOn_37 : decode cX5_wattsOn 37 = .ok (.iload_n 1, 1) := by decide +kernel
theorem dX5_wattsOn_38 : decode cX5_wattsOn 38 = .ok (.if_icmp .ne 17, 3) := by decide +kernel
theorem dX5_wattsOn_41 : decode cX5_wattsOn 41 = .ok (.aload_n 0, 1) := by decide +kernel
theorem dX5_wattsOn_42 : decode cX5_wattsOn 42 = .ok (.getfield 22, 3) := by decide +kernel
theorem dX5_wattsOn_45 : decode cX5_wattsOn 45 = .ok (.bipush 11, 2) := by decide +kernel
theorem dX5_wattsOn_47 : decode cX5_wattsOn 47 = .ok (.iload_n 3, 1) := by decide +kernel
theorem dX5_wattsOn_48 : decode cX5_wattsOn 48 = .ok (.imul, 1) := by decide +kernel
theorem dX5_wattsOn_49 : decode cX5_wattsOn 49 = .ok (.iconst 2, 1) := by decide +kernel
theorem dX5_wattsOn_50 : decode cX5_wattsOn 50 = .ok (.iadd, 1) := by decide +kernel
theorem dX5_wattsOn_51 : decode cX5_wattsOn 51 = .ok (.iaload, 1) := by decide +kernel
theorem dX5_wattsOn_52 : decode cX5_wattsOn 52 = .ok (.goto 4, 3) := by decide +kernel
theorem dX5_wattsOn_55 : decode cX5_wattsOn 55 = .ok (.iconst 0, 1) := by decide +kernel
theorem dX5_wattsOn_56 : decode cX5_wattsOn 56 = .ok (.iadd, 1) := by decide +kernel
theorem dX5_wattsOn_57 : decode cX5_wattsOn 57 = .ok (.istore_n 2, 1) := by decide +kernel
theorem dX5_wattsOn_58 : decode cX5_wattsOn 58 = .ok (.iinc 3 1, 3) := by decide +kernel
theorem dX5_wattsOn_61 : decode cX5_wattsOn 61 = .ok (.goto (-57), 3) := by decide +kernel
theorem dX5_wattsOn_64 : decode cX5_wattsOn 64 = .ok (.iload_n 2, 1) := by decide +kernel
theorem dX5_wattsOn_65 : decode cX5_wattsOn 65 = .ok (.ireturn, 1) := by decide +kernel
theorem dX5_isOver_0 : decode cX5_isOver 0 = .ok (.aload_n 0, 1) := by decide +kernel
theorem dX5_isOver_1 : decode cX5_isOver 1 = .ok (.getfield 16, 3) := by decide +kernel
theorem dX5_isOver_4 : decode cX5_isOver 4 = .ok (.iconst 3, 1) := by decide +kernel
theorem dX5_isOver_5 : decode cX5_isOver 5 = .ok (.iload_n 1, 1) := by decide +kernel
theorem dX5_isOver_6 : decode cX5_isOver 6 = .ok (.imul, 1) := by decide +kernel
theorem dX5_isOver_7 : decode cX5_isOver 7 = .ok (.iconst 1, 1) := by decide +kernel
theorem dX5_isOver_8 : decode cX5_isOver 8 = .ok (.iadd, 1) := by decide +kernel
theorem dX5_isOver_9 : decode cX5_isOver 9 = .ok (.iaload, 1) := by decide +kernel
theorem dX5_isOver_10 : decode cX5_isOver 10 = .ok (.aload_n 0, 1) := by decide +kernel
theorem dX5_isOver_11 : decode cX5_isOver 11 = .ok (.iload_n 1, 1) := by decide +kernel
theorem dX5_isOver_12 : decode cX5_isOver 12 = .ok (.invokevirtual 115, 3) := by decide +kernel
theorem dX5_isOver_15 : decode cX5_isOver 15 = .ok (.iadd, 1) := by decide +kernel
theorem dX5_isOver_16 : decode cX5_isOver 16 = .ok (.aload_n 0, 1) := by decide +kernel
theorem dX5_isOver_17 : decode cX5_isOver 17 = .ok (.getfield 16, 3) := by decide +kernel
theorem dX5_isOver_20 : decode cX5_isOver 20 = .ok (.iconst 3, 1) := by decide +kernel
theorem dX5_isOver_21 : decode cX5_isOver 21 = .ok (.iload_n 1, 1) := by decide +kernel
theorem dX5_isOver_22 : decode cX5_isOver 22 = .ok (.imul, 1) := by decide +kernel
theorem dX5_isOver_23 : decode cX5_isOver 23 = .ok (.iaload, 1) := by decide +kernel
theorem dX5_isOver_24 : decode cX5_isOver 24 = .ok (.if_icmp .le 7, 3) := by decide +kernel
theorem dX5_isOver_27 : decode cX5_isOver 27 = .ok (.iconst 1, 1) := by decide +kernel
theorem dX5_isOver_28 : decode cX5_isOver 28 = .ok (.goto 4, 3) := by decide +kernel
theorem dX5_isOver_31 : decode cX5_isOver 31 = .ok (.iconst 0, 1) := by decide +kernel
theorem dX5_isOver_32 : decode cX5_isOver 32 = .ok (.ireturn, 1) := by decide +kernel
theorem dX5_plug_0 : decode cX5_plug 0 = .ok (.aload_n 0, 1) := by decide +kernel
theorem dX5_plug_1 : decode cX5_plug 1 = .ok (.invokevirtual 41, 3) := by decide +kernel
theorem dX5_plug_4 : decode cX5_plug 4 = .ok (.ifCond .ne 6, 3) := by decide +kernel
theorem dX5_plug_7 : decode cX5_plug 7 = .ok (.bipush (-3), 2) := by decide +kernel
theorem dX5_plug_9 : decode cX5_plug 9 = .ok (.ireturn, 1) := by decide +kernel
theorem dX5_plug_10 : decode cX5_plug 10 = .ok (.iload_n 1, 1) := by decide +kernel
theorem dX5_plug_11 : decode cX5_plug 11 = .ok (.invokestatic 52, 3) := by decide +kernel
theorem dX5_plug_14 : decode cX5_plug 14 = .ok (.ifCond .eq 13, 3) := by decide +kernel
theorem dX5_plug_17 : decode cX5_plug 17 = .ok (.iload_n 2, 1) := by decide +kernel
theorem dX5_plug_18 : decode cX5_plug 18 = .ok (.iconst 0, 1) := by decide +kernel
theorem dX5_plug_19 : decode cX5_plug 19 = .ok (.bipush 99, 2) := by decide +kernel
theorem dX5_plug_21 : decode cX5_plug 21 = .ok (.invokestatic 37, 3) := by decide +kernel
theorem dX5_plug_24 : decode cX5_plug 24 = .ok (.ifCond .ne 5, 3) := by decide +kernel
theorem dX5_plug_27 : decode cX5_plug 27 = .ok (.iconst (-1), 1) := by decide +kernel
theorem dX5_plug_28 : decode cX5_plug 28 = .ok (.ireturn, 1) := by decide +kernel
theorem dX5_plug_29 : decode cX5_plug 29 = .ok (.aload_n 0, 1) := by decide +kernel
theorem dX5_plug_30 : decode cX5_plug 30 = .ok (.getfield 16, 3) := by decide +kernel
theorem dX5_plug_33 : decode cX5_plug 33 = .ok (.iconst 3, 1) := by decide +kernel
theorem dX5_plug_34 : decode cX5_plug 34 = .ok (.iload_n 1, 1) := by decide +kernel
theorem dX5_plug_35 : decode cX5_plug 35 = .ok (.imul, 1) := by decide +kernel
theorem dX5_plug_36 : decode cX5_plug 36 = .ok (.iconst 2, 1) := by decide +kernel
theorem dX5_plug_37 : decode cX5_plug 37 = .ok (.iadd, 1) := by decide +kernel
theorem dX5_plug_38 : decode cX5_plug 38 = .ok (.iaload, 1) := by decide +kernel
theorem dX5_plug_39 : decode cX5_plug 39 = .ok (.iconst 1, 1) := by decide +kernel
theorem dX5_plug_40 : decode cX5_plug 40 = .ok (.if_icmp .ne 6, 3) := by decide +kernel
theorem dX5_plug_43 : decode cX5_plug 43 = .ok (.bipush (-5), 2) := by decide +kernel
theorem dX5_plug_45 : decode cX5_plug 45 = .ok (.ireturn, 1) := by decide +kernel
theorem dX5_plug_46 : decode cX5_plug 46 = .ok (.aload_n 0, 1) := by decide +kernel
theorem dX5_plug_47 : decode cX5_plug 47 = .ok (.getfield 16, 3) := by decide +kernel
theorem dX5_plug_50 : decode cX5_plug 50 = .ok (.iconst 3, 1) := by decide +kernel
theorem dX5_plug_51 : decode cX5_plug 51 = .ok (.iload_n 1, 1) := by decide +kernel
theorem dX5_plug_52 : decode cX5_plug 52 = .ok (.imul, 1) := by decide +kernel
theorem dX5_plug_53 : decode cX5_plug 53 = .ok (.iconst 1, 1) := by decide +kernel
theorem dX5_plug_54 : decode cX5_plug 54 = .ok (.iadd, 1) := by decide +kernel
theorem dX5_plug_55 : decode cX5_plug 55 = .ok (.iload_n 2, 1) := by decide +kernel
theorem dX5_plug_56 : decode cX5_plug 56 = .ok (.iastore, 1) := by decide +kernel
theorem dX5_plug_57 : decode cX5_plug 57 = .ok (.aload_n 0, 1) := by decide +kernel
theorem dX5_plug_58 : decode cX5_plug 58 = .ok (.getfield 16, 3) := by decide +kernel
theorem dX5_plug_61 : decode cX5_plug 61 = .ok (.iconst 3, 1) := by decide +kernel
theorem dX5_plug_62 : decode cX5_plug 62 = .ok (.iload_n 1, 1) := by decide +kernel
theorem dX5_plug_63 : decode cX5_plug 63 = .ok (.imul, 1) := by decide +kernel
theorem dX5_plug_64 : decode cX5_plug 64 = .ok (.iconst 2, 1) := by decide +kernel
theorem dX5_plug_65 : decode cX5_plug 65 = .ok (.iadd, 1) := by decide +kernel
theorem dX5_plug_66 : decode cX5_plug 66 = .ok (.aload_n 0, 1) := by decide +kernel
theorem dX5_plug_67 : decode cX5_plug 67 = .ok (.iload_n 1, 1) := by decide +kernel
theorem dX5_plug_68 : decode cX5_plug 68 = .ok (.invokevirtual 118, 3) := by decide +kernel
theorem dX5_plug_71 : decode cX5_plug 71 = .ok (.ifCond .eq 7, 3) := by decide +kernel
theorem dX5_plug_74 : decode cX5_plug 74 = .ok (.iconst 1, 1) := by decide +kernel
theorem dX5_plug_75 : decode cX5_plug 75 = .ok (.goto 4, 3) := by decide +kernel
theorem dX5_plug_78 : decode cX5_plug 78 = .ok (.iconst 0, 1) := by decide +kernel
theorem dX5_plug_79 : decode cX5_plug 79 = .ok (.iastore, 1) := by decide +kernel
theorem dX5_plug_80 : decode cX5_plug 80 = .ok (.aload_n 0, 1) := by decide +kernel
theorem dX5_plug_81 : decode cX5_plug 81 = .ok (.getfield 16, 3) := by decide +kernel
theorem dX5_plug_84 : decode cX5_plug 84 = .ok (.iconst 3, 1) := by decide +kernel
theorem dX5_plug_85 : decode cX5_plug 85 = .ok (.iload_n 1, 1) := by decide +kernel
theorem dX5_plug_86 : decode cX5_plug 86 = .ok (.imul, 1) := by decide +kernel
theorem dX5_plug_87 : decode cX5_plug 87 = .ok (.iconst 2, 1) := by decide +kernel
theorem dX5_plug_88 : decode cX5_plug 88 = .ok (.iadd, 1) := by decide +kernel
theorem dX5_plug_89 : decode cX5_plug 89 = .ok (.iaload, 1) := by decide +kernel
theorem dX5_plug_90 : decode cX5_plug 90 = .ok (.ireturn, 1) := by decide +kernel
theorem dX5_reset_0 : decode cX5_reset 0 = .ok (.aload_n 0, 1) := by decide +kernel
theorem dX5_reset_1 : decode cX5_reset 1 = .ok (.invokevirtual 41, 3) := by decide +kernel
theorem dX5_reset_4 : decode cX5_reset 4 = .ok (.ifCond .ne 6, 3) := by decide +kernel
theorem dX5_reset_7 : decode cX5_reset 7 = .ok (.bipush (-3), 2) := by decide +kernel
theorem dX5_reset_9 : decode cX5_reset 9 = .ok (.ireturn, 1) := by decide +kernel
theorem dX5_reset_10 : decode cX5_reset 10 = .ok (.iload_n 1, 1) := by decide +kernel
theorem dX5_reset_11 : decode cX5_reset 11 = .ok (.invokestatic 52, 3) := by decide +kernel
theorem dX5_reset_14 : decode cX5_reset 14 = .ok (.ifCond .ne 5, 3) := by decide +kernel
theorem dX5_reset_17 : decode cX5_reset 17 = .ok (.iconst (-1), 1) := by decide +kernel
theorem dX5_reset_18 : decode cX5_reset 18 = .ok (.ireturn, 1) := by decide +kernel
theorem dX5_reset_19 : decode cX5_reset 19 = .ok (.aload_n 0, 1) := by decide +kernel
theorem dX5_reset_20 : decode cX5_reset 20 = .ok (.getfield 16, 3) := by decide +kernel
theorem dX5_reset_23 : decode cX5_reset 23 = .ok (.iconst 3, 1) := by decide +kernel
theorem dX5_reset_24 : decode cX5_reset 24 = .ok (.iload_n 1, 1) := by decide +kernel
theorem dX5_reset_25 : decode cX5_reset 25 = .ok (.imul, 1) := by decide +kernel
theorem dX5_reset_26 : decode cX5_reset 26 = .ok (.iconst 2, 1) := by decide +kernel
theorem dX5_reset_27 : decode cX5_reset 27 = .ok (.iadd, 1) := by decide +kernel
theorem dX5_reset_28 : decode cX5_reset 28 = .ok (.iaload, 1) := by decide +kernel
theorem dX5_reset_29 : decode cX5_reset 29 = .ok (.ifCond .ne 6, 3) := by decide +kernel
theorem dX5_reset_32 : decode cX5_reset 32 = .ok (.bipush (-4), 2) := by decide +kernel
theorem dX5_reset_34 : decode cX5_reset 34 = .ok (.ireturn, 1) := by decide +kernel
theorem dX5_reset_35 : decode cX5_reset 35 = .ok (.aload_n 0, 1) := by decide +kernel
theorem dX5_reset_36 : decode cX5_reset 36 = .ok (.iload_n 1, 1) := by decide +kernel
theorem dX5_reset_37 : decode cX5_reset 37 = .ok (.invokevirtual 118, 3) := by decide +kernel
theorem dX5_reset_40 : decode cX5_reset 40 = .ok (.ifCond .eq 6, 3) := by decide +kernel
theorem dX5_reset_43 : decode cX5_reset 43 = .ok (.bipush (-5), 2) := by decide +kernel
theorem dX5_reset_45 : decode cX5_reset 45 = .ok (.ireturn, 1) := by decide +kernel
theorem dX5_reset_46 : decode cX5_reset 46 = .ok (.aload_n 0, 1) := by decide +kernel
theorem dX5_reset_47 : decode cX5_reset 47 = .ok (.getfield 16, 3) := by decide +kernel
theorem dX5_reset_50 : decode cX5_reset 50 = .ok (.iconst 3, 1) := by decide +kernel
theorem dX5_reset_51 : decode cX5_reset 51 = .ok (.iload_n 1, 1) := by decide +kernel
theorem dX5_reset_52 : decode cX5_reset 52 = .ok (.imul, 1) := by decide +kernel
theorem dX5_reset_53 : decode cX5_reset 53 = .ok (.iconst 2, 1) := by decide +kernel
theorem dX5_reset_54 : decode cX5_reset 54 = .ok (.iadd, 1) := by decide +kernel
theorem dX5_reset_55 : decode cX5_reset 55 = .ok (.iconst 0, 1) := by decide +kernel
theorem dX5_reset_56 : decode cX5_reset 56 = .ok (.iastore, 1) := by decide +kernel
theorem dX5_reset_57 : decode cX5_reset 57 = .ok (.iconst 1, 1) := by decide +kernel
theorem dX5_reset_58 : decode cX5_reset 58 = .ok (.ireturn, 1) := by decide +kernel
theorem dX5_pull_0 : decode cX5_pull 0 = .ok (.aload_n 0, 1) := by decide +kernel
theorem dX5_pull_1 : decode cX5_pull 1 = .ok (.invokevirtual 41, 3) := by decide +kernel
theorem dX5_pull_4 : decode cX5_pull 4 = .ok (.ifCond .ne 6, 3) := by decide +kernel
theorem dX5_pull_7 : decode cX5_pull 7 = .ok (.bipush (-3), 2) := by decide +kernel
theorem dX5_pull_9 : decode cX5_pull 9 = .ok (.ireturn, 1) := by decide +kernel
theorem dX5_pull_10 : decode cX5_pull 10 = .ok (.iload_n 1, 1) := by decide +kernel
theorem dX5_pull_11 : decode cX5_pull 11 = .ok (.invokestatic 52, 3) := by decide +kernel
theorem dX5_pull_14 : decode cX5_pull 14 = .ok (.ifCond .ne 5, 3) := by decide +kernel
theorem dX5_pull_17 : decode cX5_pull 17 = .ok (.iconst (-1), 1) := by decide +kernel
theorem dX5_pull_18 : decode cX5_pull 18 = .ok (.ireturn, 1) := by decide +kernel
theorem dX5_pull_19 : decode cX5_pull 19 = .ok (.aload_n 0, 1) := by decide +kernel
theorem dX5_pull_20 : decode cX5_pull 20 = .ok (.getfield 16, 3) := by decide +kernel
theorem dX5_pull_23 : decode cX5_pull 23 = .ok (.iconst 3, 1) := by decide +kernel
theorem dX5_pull_24 : decode cX5_pull 24 = .ok (.iload_n 1, 1) := by decide +kernel
theorem dX5_pull_25 : decode cX5_pull 25 = .ok (.imul, 1) := by decide +kernel
theorem dX5_pull_26 : decode cX5_pull 26 = .ok (.iconst 1, 1) := by decide +kernel
theorem dX5_pull_27 : decode cX5_pull 27 = .ok (.iadd, 1) := by decide +kernel
theorem dX5_pull_28 : decode cX5_pull 28 = .ok (.iaload, 1) := by decide +kernel
theorem dX5_pull_29 : decode cX5_pull 29 = .ok (.istore_n 2, 1) := by decide +kernel
theorem dX5_pull_30 : decode cX5_pull 30 = .ok (.aload_n 0, 1) := by decide +kernel
theorem dX5_pull_31 : decode cX5_pull 31 = .ok (.getfield 16, 3) := by decide +kernel
theorem dX5_pull_34 : decode cX5_pull 34 = .ok (.iconst 3, 1) := by decide +kernel
theorem dX5_pull_35 : decode cX5_pull 35 = .ok (.iload_n 1, 1) := by decide +kernel
theorem dX5_pull_36 : decode cX5_pull 36 = .ok (.imul, 1) := by decide +kernel
theorem dX5_pull_37 : decode cX5_pull 37 = .ok (.iconst 1, 1) := by decide +kernel
theorem dX5_pull_38 : decode cX5_pull 38 = .ok (.iadd, 1) := by decide +kernel
theorem dX5_pull_39 : decode cX5_pull 39 = .ok (.iconst 0, 1) := by decide +kernel
theorem dX5_pull_40 : decode cX5_pull 40 = .ok (.iastore, 1) := by decide +kernel
theorem dX5_pull_41 : decode cX5_pull 41 = .ok (.iload_n 2, 1) := by decide +kernel
theorem dX5_pull_42 : decode cX5_pull 42 = .ok (.ireturn, 1) := by decide +kernel
theorem dX5_billOf_0 : decode cX5_billOf 0 = .ok (.aload_n 0, 1) := by decide +kernel
theorem dX5_billOf_1 : decode cX5_billOf 1 = .ok (.iload_n 1, 1) := by decide +kernel
theorem dX5_billOf_2 : decode cX5_billOf 2 = .ok (.invokevirtual 86, 3) := by decide +kernel
theorem dX5_billOf_5 : decode cX5_billOf 5 = .ok (.ifCond .ge 5, 3) := by decide +kernel
theorem dX5_billOf_8 : decode cX5_billOf 8 = .ok (.iconst 0, 1) := by decide +kernel
theorem dX5_billOf_9 : decode cX5_billOf 9 = .ok (.ireturn, 1) := by decide +kernel
theorem dX5_billOf_10 : decode cX5_billOf 10 = .ok (.aload_n 0, 1) := by decide +kernel
theorem dX5_billOf_11 : decode cX5_billOf 11 = .ok (.getfield 13, 3) := by decide +kernel
theorem dX5_billOf_14 : decode cX5_billOf 14 = .ok (.iconst 3, 1) := by decide +kernel
theorem dX5_billOf_15 : decode cX5_billOf 15 = .ok (.aload_n 0, 1) := by decide +kernel
theorem dX5_billOf_16 : decode cX5_billOf 16 = .ok (.iload_n 1, 1) := by decide +kernel
theorem dX5_billOf_17 : decode cX5_billOf 17 = .ok (.invokevirtual 86, 3) := by decide +kernel
theorem dX5_billOf_20 : decode cX5_billOf 20 = .ok (.imul, 1) := by decide +kernel
theorem dX5_billOf_21 : decode cX5_billOf 21 = .ok (.iaload, 1) := by decide +kernel
theorem dX5_billOf_22 : decode cX5_billOf 22 = .ok (.aload_n 0, 1) := by decide +kernel
theorem dX5_billOf_23 : decode cX5_billOf 23 = .ok (.getfield 22, 3) := by decide +kernel
theorem dX5_billOf_26 : decode cX5_billOf 26 = .ok (.bipush 11, 2) := by decide +kernel
theorem dX5_billOf_28 : decode cX5_billOf 28 = .ok (.iload_n 1, 1) := by decide +kernel
theorem dX5_billOf_29 : decode cX5_billOf 29 = .ok (.imul, 1) := by decide +kernel
theorem dX5_billOf_30 : decode cX5_billOf 30 = .ok (.bipush 8, 2) := by decide +kernel
theorem dX5_billOf_32 : decode cX5_billOf 32 = .ok (.iadd, 1) := by decide +kernel
theorem dX5_billOf_33 : decode cX5_billOf 33 = .ok (.iaload, 1) := by decide +kernel
theorem dX5_billOf_34 : decode cX5_billOf 34 = .ok (.aload_n 0, 1) := by decide +kernel
theorem dX5_billOf_35 : decode cX5_billOf 35 = .ok (.getfield 7, 3) := by decide +kernel
theorem dX5_billOf_38 : decode cX5_billOf 38 = .ok (.bipush 6, 2) := by decide +kernel
theorem dX5_billOf_40 : decode cX5_billOf 40 = .ok (.iaload, 1) := by decide +kernel
theorem dX5_billOf_41 : decode cX5_billOf 41 = .ok (.imul, 1) := by decide +kernel
theorem dX5_billOf_42 : decode cX5_billOf 42 = .ok (.bipush 100, 2) := by decide +kernel
theorem dX5_billOf_44 : decode cX5_billOf 44 = .ok (.idiv, 1) := by decide +kernel
theorem dX5_billOf_45 : decode cX5_billOf 45 = .ok (.iadd, 1) := by decide +kernel
theorem dX5_billOf_46 : decode cX5_billOf 46 = .ok (.ireturn, 1) := by decide +kernel
theorem dX5_of_0 : decode cX5_of 0 = .ok (.aload_n 0, 1) := by decide +kernel
theorem dX5_of_1 : decode cX5_of 1 = .ok (.iload_n 1, 1) := by decide +kernel
theorem dX5_of_2 : decode cX5_of 2 = .ok (.invokevirtual 59, 3) := by decide +kernel
theorem dX5_of_5 : decode cX5_of 5 = .ok (.ifCond .eq 13, 3) := by decide +kernel
theorem dX5_of_8 : decode cX5_of 8 = .ok (.iload_n 2, 1) := by decide +kernel
theorem dX5_of_9 : decode cX5_of 9 = .ok (.iconst 0, 1) := by decide +kernel
theorem dX5_of_10 : decode cX5_of 10 = .ok (.bipush 11, 2) := by decide +kernel
theorem dX5_of_12 : decode cX5_of 12 = .ok (.invokestatic 37, 3) := by decide +kernel
theorem dX5_of_15 : decode cX5_of 15 = .ok (.ifCond .ne 5, 3) := by decide +kernel
theorem dX5_of_18 : decode cX5_of 18 = .ok (.iconst (-1), 1) := by decide +kernel
theorem dX5_of_19 : decode cX5_of 19 = .ok (.ireturn, 1) := by decide +kernel
theorem dX5_of_20 : decode cX5_of 20 = .ok (.iload_n 2, 1) := by decide +kernel
theorem dX5_of_21 : decode cX5_of 21 = .ok (.tableswitch 83 6 11 #[39, 83, 83, 58, 64, 77], 39) := by decide +kernel
theorem dX5_of_60 : decode cX5_of 60 = .ok (.aload_n 0, 1) := by decide +kernel
theorem dX5_of_61 : decode cX5_of 61 = .ok (.iload_n 1, 1) := by decide +kernel
theorem dX5_of_62 : decode cX5_of 62 = .ok (.invokevirtual 86, 3) := by decide +kernel
theorem dX5_of_65 : decode cX5_of 65 = .ok (.ifCond .ge 8, 3) := by decide +kernel
theorem dX5_of_68 : decode cX5_of 68 = .ok (.bipush (-4), 2) := by decide +kernel
theorem dX5_of_70 : decode cX5_of 70 = .ok (.goto 8, 3) := by decide +kernel
theorem dX5_of_73 : decode cX5_of 73 = .ok (.aload_n 0, 1) := by decide +kernel
theorem dX5_of_74 : decode cX5_of 74 = .ok (.iload_n 1, 1) := by decide +kernel
theorem dX5_of_75 : decode cX5_of 75 = .ok (.invokevirtual 86, 3) := by decide +kernel
theorem dX5_of_78 : decode cX5_of 78 = .ok (.ireturn, 1) := by decide +kernel
theorem dX5_of_79 : decode cX5_of 79 = .ok (.aload_n 0, 1) := by decide +kernel
theorem dX5_of_80 : decode cX5_of 80 = .ok (.iload_n 1, 1) := by decide +kernel
theorem dX5_of_81 : decode cX5_of 81 = .ok (.invokevirtual 100, 3) := by decide +kernel
theorem dX5_of_84 : decode cX5_of 84 = .ok (.ireturn, 1) := by decide +kernel
theorem dX5_of_85 : decode cX5_of 85 = .ok (.aload_n 0, 1) := by decide +kernel
theorem dX5_of_86 : decode cX5_of 86 = .ok (.getfield 22, 3) := by decide +kernel
theorem dX5_of_89 : decode cX5_of 89 = .ok (.bipush 11, 2) := by decide +kernel
theorem dX5_of_91 : decode cX5_of 91 = .ok (.iload_n 1, 1) := by decide +kernel
theorem dX5_of_92 : decode cX5_of 92 = .ok (.imul, 1) := by decide +kernel
theorem dX5_of_93 : decode cX5_of 93 = .ok (.bipush 9, 2) := by decide +kernel
theorem dX5_of_95 : decode cX5_of 95 = .ok (.iadd, 1) := by decide +kernel
theorem dX5_of_96 : decode cX5_of 96 = .ok (.iaload, 1) := by decide +kernel
theorem dX5_of_97 : decode cX5_of 97 = .ok (.ireturn, 1) := by decide +kernel
theorem dX5_of_98 : decode cX5_of 98 = .ok (.aload_n 0, 1) := by decide +kernel
theorem dX5_of_99 : decode cX5_of 99 = .ok (.iload_n 1, 1) := by decide +kernel
theorem dX5_of_100 : decode cX5_of 100 = .ok (.invokevirtual 121, 3) := by decide +kernel
theorem dX5_of_103 : decode cX5_of 103 = .ok (.ireturn, 1) := by decide +kernel
theorem dX5_of_104 : decode cX5_of 104 = .ok (.aload_n 0, 1) := by decide +kernel
theorem dX5_of_105 : decode cX5_of 105 = .ok (.getfield 22, 3) := by decide +kernel
theorem dX5_of_108 : decode cX5_of 108 = .ok (.bipush 11, 2) := by decide +kernel
theorem dX5_of_110 : decode cX5_of 110 = .ok (.iload_n 1, 1) := by decide +kernel
theorem dX5_of_111 : decode cX5_of 111 = .ok (.imul, 1) := by decide +kernel
theorem dX5_of_112 : decode cX5_of 112 = .ok (.iload_n 2, 1) := by decide +kernel
theorem dX5_of_113 : decode cX5_of 113 = .ok (.iadd, 1) := by decide +kernel
theorem dX5_of_114 : decode cX5_of 114 = .ok (.iaload, 1) := by decide +kernel
theorem dX5_of_115 : decode cX5_of 115 = .ok (.ireturn, 1) := by decide +kernel
theorem dX5_guestOf_0 : decode cX5_guestOf 0 = .ok (.iload_n 1, 1) := by decide +kernel
theorem dX5_guestOf_1 : decode cX5_guestOf 1 = .ok (.iconst 0, 1) := by decide +kernel
theorem dX5_guestOf_2 : decode cX5_guestOf 2 = .ok (.aload_n 0, 1) := by decide +kernel
theorem dX5_guestOf_3 : decode cX5_guestOf 3 = .ok (.getfield 7, 3) := by decide +kernel
theorem dX5_guestOf_6 : decode cX5_guestOf 6 = .ok (.iconst 4, 1) := by decide +kernel
theorem dX5_guestOf_7 : decode cX5_guestOf 7 = .ok (.iaload, 1) := by decide +kernel
theorem dX5_guestOf_8 : decode cX5_guestOf 8 = .ok (.iconst 1, 1) := by decide +kernel
theorem dX5_guestOf_9 : decode cX5_guestOf 9 = .ok (.isub, 1) := by decide +kernel
theorem dX5_guestOf_10 : decode cX5_guestOf 10 = .ok (.invokestatic 37, 3) := by decide +kernel
theorem dX5_guestOf_13 : decode cX5_guestOf 13 = .ok (.ifCond .eq 12, 3) := by decide +kernel
theorem dX5_guestOf_16 : decode cX5_guestOf 16 = .ok (.iload_n 2, 1) := by decide +kernel
theorem dX5_guestOf_17 : decode cX5_guestOf 17 = .ok (.iconst 0, 1) := by decide +kernel
theorem dX5_guestOf_18 : decode cX5_guestOf 18 = .ok (.iconst 4, 1) := by decide +kernel
theorem dX5_guestOf_19 : decode cX5_guestOf 19 = .ok (.invokestatic 37, 3) := by decide +kernel
theorem dX5_guestOf_22 : decode cX5_guestOf 22 = .ok (.ifCond .ne 5, 3) := by decide +kernel
theorem dX5_guestOf_25 : decode cX5_guestOf 25 = .ok (.iconst (-1), 1) := by decide +kernel
theorem dX5_guestOf_26 : decode cX5_guestOf 26 = .ok (.ireturn, 1) := by decide +kernel
theorem dX5_guestOf_27 : decode cX5_guestOf 27 = .ok (.bipush 7, 2) := by decide +kernel
theorem dX5_guestOf_29 : decode cX5_guestOf 29 = .ok (.iload_n 1, 1) := by decide +kernel
theorem dX5_guestOf_30 : decode cX5_guestOf 30 = .ok (.imul, 1) := by decide +kernel
theorem dX5_guestOf_31 : decode cX5_guestOf 31 = .ok (.istore_n 3, 1) := by decide +kernel
theorem dX5_guestOf_32 : decode cX5_guestOf 32 = .ok (.aload_n 0, 1) := by decide +kernel
theorem dX5_guestOf_33 : decode cX5_guestOf 33 = .ok (.getfield 25, 3) := by decide +kernel
theorem dX5_guestOf_36 : decode cX5_guestOf 36 = .ok (.iload_n 3, 1) := by decide +kernel
theorem dX5_guestOf_37 : decode cX5_guestOf 37 = .ok (.iconst 2, 1) := by decide +kernel
theorem dX5_guestOf_38 : decode cX5_guestOf 38 = .ok (.iadd, 1) := by decide +kernel
theorem dX5_guestOf_39 : decode cX5_guestOf 39 = .ok (.iaload, 1) := by decide +kernel
theorem dX5_guestOf_40 : decode cX5_guestOf 40 = .ok (.istore 4, 2) := by decide +kernel
theorem dX5_guestOf_42 : decode cX5_guestOf 42 = .ok (.iload_n 2, 1) := by decide +kernel
theorem dX5_guestOf_43 : decode cX5_guestOf 43 = .ok (.tableswitch 68 0 3 #[29, 32, 52, 61], 29) := by decide +kernel
theorem dX5_guestOf_72 : decode cX5_guestOf 72 = .ok (.iload 4, 2) := by decide +kernel
theorem dX5_guestOf_74 : decode cX5_guestOf 74 = .ok (.ireturn, 1) := by decide +kernel
theorem dX5_guestOf_75 : decode cX5_guestOf 75 = .ok (.iload 4, 2) := by decide +kernel
theorem dX5_guestOf_77 : decode cX5_guestOf 77 = .ok (.iconst 3, 1) := by decide +kernel
theorem dX5_guestOf_78 : decode cX5_guestOf 78 = .ok (.if_icmp .lt 8, 3) := by decide +kernel
theorem dX5_guestOf_81 : decode cX5_guestOf 81 = .ok (.bipush (-4), 2) := by decide +kernel
theorem dX5_guestOf_83 : decode cX5_guestOf 83 = .ok (.goto 11, 3) := by decide +kernel
theorem dX5_guestOf_86 : decode cX5_guestOf 86 = .ok (.aload_n 0, 1) := by decide +kernel
theorem dX5_guestOf_87 : decode cX5_guestOf 87 = .ok (.getfield 25, 3) := by decide +kernel
theorem dX5_guestOf_90 : decode cX5_guestOf 90 = .ok (.iload_n 3, 1) := by decide +kernel
theorem dX5_guestOf_91 : decode cX5_guestOf 91 = .ok (.iconst 3, 1) := by decide +kernel
theorem dX5_guestOf_92 : decode cX5_guestOf 92 = .ok (.iadd, 1) := by decide +kernel
theorem dX5_guestOf_93 : decode cX5_guestOf 93 = .ok (.iaload, 1) := by decide +kernel
theorem dX5_guestOf_94 : decode cX5_guestOf 94 = .ok (.ireturn, 1) := by decide +kernel
theorem dX5_guestOf_95 : decode cX5_guestOf 95 = .ok (.aload_n 0, 1) := by decide +kernel
theorem dX5_guestOf_96 : decode cX5_guestOf 96 = .ok (.getfield 25, 3) := by decide +kernel
theorem dX5_guestOf_99 : decode cX5_guestOf 99 = .ok (.iload_n 3, 1) := by decide +kernel
theorem dX5_guestOf_100 : decode cX5_guestOf 100 = .ok (.iconst 1, 1) := by decide +kernel
theorem dX5_guestOf_101 : decode cX5_guestOf 101 = .ok (.iadd, 1) := by decide +kernel
theorem dX5_guestOf_102 : decode cX5_guestOf 102 = .ok (.iaload, 1) := by decide +kernel
theorem dX5_guestOf_103 : decode cX5_guestOf 103 = .ok (.ireturn, 1) := by decide +kernel
theorem dX5_guestOf_104 : decode cX5_guestOf 104 = .ok (.aload_n 0, 1) := by decide +kernel
theorem dX5_guestOf_105 : decode cX5_guestOf 105 = .ok (.getfield 25, 3) := by decide +kernel
theorem dX5_guestOf_108 : decode cX5_guestOf 108 = .ok (.iload_n 3, 1) := by decide +kernel
theorem dX5_guestOf_109 : decode cX5_guestOf 109 = .ok (.iaload, 1) := by decide +kernel
theorem dX5_guestOf_110 : decode cX5_guestOf 110 = .ok (.ireturn, 1) := by decide +kernel
theorem dX5_guestOf_111 : decode cX5_guestOf 111 = .ok (.iload 4, 2) := by decide +kernel
theorem dX5_guestOf_113 : decode cX5_guestOf 113 = .ok (.iconst 1, 1) := by decide +kernel
theorem dX5_guestOf_114 : decode cX5_guestOf 114 = .ok (.iconst 3, 1) := by decide +kernel
theorem dX5_guestOf_115 : decode cX5_guestOf 115 = .ok (.invokestatic 37, 3) := by decide +kernel
theorem dX5_guestOf_118 : decode cX5_guestOf 118 = .ok (.ifCond .eq 14, 3) := by decide +kernel
theorem dX5_guestOf_121 : decode cX5_guestOf 121 = .ok (.aload_n 0, 1) := by decide +kernel
theorem dX5_guestOf_122 : decode cX5_guestOf 122 = .ok (.getfield 25, 3) := by decide +kernel
theorem dX5_guestOf_125 : decode cX5_guestOf 125 = .ok (.iload_n 3, 1) := by decide +kernel
theorem dX5_guestOf_126 : decode cX5_guestOf 126 = .ok (.iconst 4, 1) := by decide +kernel
theorem dX5_guestOf_127 : decode cX5_guestOf 127 = .ok (.iadd, 1) := by decide +kernel
theorem dX5_guestOf_128 : decode cX5_guestOf 128 = .ok (.iaload, 1) := by decide +kernel
theorem dX5_guestOf_129 : decode cX5_guestOf 129 = .ok (.goto 5, 3) := by decide +kernel
theorem dX5_guestOf_132 : decode cX5_guestOf 132 = .ok (.bipush (-4), 2) := by decide +kernel
theorem dX5_guestOf_134 : decode cX5_guestOf 134 = .ok (.ireturn, 1) := by decide +kernel
theorem dX5_suspects_0 : decode cX5_suspects 0 = .ok (.iload_n 1, 1) := by decide +kernel
theorem dX5_suspects_1 : decode cX5_suspects 1 = .ok (.iconst 0, 1) := by decide +kernel
theorem dX5_suspects_2 : decode cX5_suspects 2 = .ok (.iconst 5, 1) := by decide +kernel
theorem dX5_suspects_3 : decode cX5_suspects 3 = .ok (.invokestatic 37, 3) := by decide +kernel
theorem dX5_suspects_6 : decode cX5_suspects 6 = .ok (.ifCond .eq 12, 3) := by decide +kernel
theorem dX5_suspects_9 : decode cX5_suspects 9 = .ok (.iload_n 2, 1) := by decide +kernel
theorem dX5_suspects_10 : decode cX5_suspects 10 = .ok (.ifCond .lt 8, 3) := by decide +kernel
theorem dX5_suspects_13 : decode cX5_suspects 13 = .ok (.iload_n 2, 1) := by decide +kernel
theorem dX5_suspects_14 : decode cX5_suspects 14 = .ok (.iload_n 3, 1) := by decide +kernel
theorem dX5_suspects_15 : decode cX5_suspects 15 = .ok (.if_icmp .le 5, 3) := by decide +kernel
theorem dX5_suspects_18 : decode cX5_suspects 18 = .ok (.iconst (-1), 1) := by decide +kernel
theorem dX5_suspects_19 : decode cX5_suspects 19 = .ok (.ireturn, 1) := by decide +kernel
theorem dX5_suspects_20 : decode cX5_suspects 20 = .ok (.iconst 0, 1) := by decide +kernel
theorem dX5_suspects_21 : decode cX5_suspects 21 = .ok (.istore 4, 2) := by decide +kernel
theorem dX5_suspects_23 : decode cX5_suspects 23 = .ok (.iconst 0, 1) := by decide +kernel
theorem dX5_suspects_24 : decode cX5_suspects 24 = .ok (.istore 5, 2) := by decide +kernel
theorem dX5_suspects_26 : decode cX5_suspects 26 = .ok (.iload 5, 2) := by decide +kernel
theorem dX5_suspects_28 : decode cX5_suspects 28 = .ok (.aload_n 0, 1) := by decide +kernel
theorem dX5_suspects_29 : decode cX5_suspects 29 = .ok (.getfield 7, 3) := by decide +kernel
theorem dX5_suspects_32 : decode cX5_suspects 32 = .ok (.iconst 4, 1) := by decide +kernel
theorem dX5_suspects_33 : decode cX5_suspects 33 = .ok (.iaload, 1) := by decide +kernel
theorem dX5_suspects_34 : decode cX5_suspects 34 = .ok (.if_icmp .ge 95, 3) := by decide +kernel
theorem dX5_suspects_37 : decode cX5_suspects 37 = .ok (.aload_n 0, 1) := by decide +kernel
theorem dX5_suspects_38 : decode cX5_suspects 38 = .ok (.getfield 25, 3) := by decide +kernel
theorem dX5_suspects_41 : decode cX5_suspects 41 = .ok (.bipush 7, 2) := by decide +kernel
theorem dX5_suspects_43 : decode cX5_suspects 43 = .ok (.iload 5, 2) := by decide +kernel
theorem dX5_suspects_45 : decode cX5_suspects 45 = .ok (.imul, 1) := by decide +kernel
theorem dX5_suspects_46 : decode cX5_suspects 46 = .ok (.iconst 2, 1) := by decide +kernel
theorem dX5_suspects_47 : decode cX5_suspects 47 = .ok (.iadd, 1) := by decide +kernel
theorem dX5_suspects_48 : decode cX5_suspects 48 = .ok (.iaload, 1) := by decide +kernel
theorem dX5_suspects_49 : decode cX5_suspects 49 = .ok (.iconst 3, 1) := by decide +kernel
theorem dX5_suspects_50 : decode cX5_suspects 50 = .ok (.if_icmp .ne 42, 3) := by decide +kernel
theorem dX5_suspects_53 : decode cX5_suspects 53 = .ok (.aload_n 0, 1) := by decide +kernel
theorem dX5_suspects_54 : decode cX5_suspects 54 = .ok (.getfield 25, 3) := by decide +kernel
theorem dX5_suspects_57 : decode cX5_suspects 57 = .ok (.bipush 7, 2) := by decide +kernel
theorem dX5_suspects_59 : decode cX5_suspects 59 = .ok (.iload 5, 2) := by decide +kernel
theorem dX5_suspects_61 : decode cX5_suspects 61 = .ok (.imul, 1) := by decide +kernel
theorem dX5_suspects_62 : decode cX5_suspects 62 = .ok (.iaload, 1) := by decide +kernel
theorem dX5_suspects_63 : decode cX5_suspects 63 = .ok (.iload_n 1, 1) := by decide +kernel
theorem dX5_suspects_64 : decode cX5_suspects 64 = .ok (.if_icmp .ne 28, 3) := by decide +kernel
theorem dX5_suspects_67 : decode cX5_suspects 67 = .ok (.aload_n 0, 1) := by decide +kernel
theorem dX5_suspects_68 : decode cX5_suspects 68 = .ok (.getfield 25, 3) := by decide +kernel
theorem dX5_suspects_71 : decode cX5_suspects 71 = .ok (.bipush 7, 2) := by decide +kernel
theorem dX5_suspects_73 : decode cX5_suspects 73 = .ok (.iload 5, 2) := by decide +kernel
theorem dX5_suspects_75 : decode cX5_suspects 75 = .ok (.imul, 1) := by decide +kernel
theorem dX5_suspects_76 : decode cX5_suspects 76 = .ok (.bipush 6, 2) := by decide +kernel
theorem dX5_suspects_78 : decode cX5_suspects 78 = .ok (.iadd, 1) := by decide +kernel
theorem dX5_suspects_79 : decode cX5_suspects 79 = .ok (.iaload, 1) := by decide +kernel
theorem dX5_suspects_80 : decode cX5_suspects 80 = .ok (.iload_n 2, 1) := by decide +kernel
theorem dX5_suspects_81 : decode cX5_suspects 81 = .ok (.iload_n 3, 1) := by decide +kernel
theorem dX5_suspects_82 : decode cX5_suspects 82 = .ok (.invokestatic 37, 3) := by decide +kernel
theorem dX5_suspects_85 : decode cX5_suspects 85 = .ok (.ifCond .eq 7, 3) := by decide +kernel
theorem dX5_suspects_88 : decode cX5_suspects 88 = .ok (.iconst 1, 1) := by decide +kernel
theorem dX5_suspects_89 : decode cX5_suspects 89 = .ok (.goto 4, 3) := by decide +kernel
theorem dX5_suspects_92 : decode cX5_suspects 92 = .ok (.iconst 0, 1) := by decide +kernel
theorem dX5_suspects_93 : decode cX5_suspects 93 = .ok (.istore 6, 2) := by decide +kernel
theorem dX5_suspects_95 : decode cX5_suspects 95 = .ok (.iload 4, 2) := by decide +kernel
theorem dX5_suspects_97 : decode cX5_suspects 97 = .ok (.iload 6, 2) := by decide +kernel
theorem dX5_suspects_99 : decode cX5_suspects 99 = .ok (.ifCond .eq 20, 3) := by decide +kernel
theorem dX5_suspects_102 : decode cX5_suspects 102 = .ok (.iconst 1, 1) := by decide +kernel
theorem dX5_suspects_103 : decode cX5_suspects 103 = .ok (.aload_n 0, 1) := by decide +kernel
theorem dX5_suspects_104 : decode cX5_suspects 104 = .ok (.getfield 25, 3) := by decide +kernel
theorem dX5_suspects_107 : decode cX5_suspects 107 = .ok (.bipush 7, 2) := by decide +kernel
theorem dX5_suspects_109 : decode cX5_suspects 109 = .ok (.iload 5, 2) := by decide +kernel
theorem dX5_suspects_111 : decode cX5_suspects 111 = .ok (.imul, 1) := by decide +kernel
theorem dX5_suspects_112 : decode cX5_suspects 112 = .ok (.iconst 4, 1) := by decide +kernel
theorem dX5_suspects_113 : decode cX5_suspects 113 = .ok (.iadd, 1) := by decide +kernel
theorem dX5_suspects_114 : decode cX5_suspects 114 = .ok (.iaload, 1) := by decide +kernel
theorem dX5_suspects_115 : decode cX5_suspects 115 = .ok (.ishl, 1) := by decide +kernel
theorem dX5_suspects_116 : decode cX5_suspects 116 = .ok (.goto 4, 3) := by decide +kernel
theorem dX5_suspects_119 : decode cX5_suspects 119 = .ok (.iconst 0, 1) := by decide +kernel
theorem dX5_suspects_120 : decode cX5_suspects 120 = .ok (.ior, 1) := by decide +kernel
theorem dX5_suspects_121 : decode cX5_suspects 121 = .ok (.istore 4, 2) := by decide +kernel
theorem dX5_suspects_123 : decode cX5_suspects 123 = .ok (.iinc 5 1, 3) := by decide +kernel
theorem dX5_suspects_126 : decode cX5_suspects 126 = .ok (.goto (-100), 3) := by decide +kernel
theorem dX5_suspects_129 : decode cX5_suspects 129 = .ok (.iload 4, 2) := by decide +kernel
theorem dX5_suspects_131 : decode cX5_suspects 131 = .ok (.ireturn, 1) := by decide +kernel
theorem dX5_lineOf_0 : decode cX5_lineOf 0 = .ok (.iload_n 1, 1) := by decide +kernel
theorem dX5_lineOf_1 : decode cX5_lineOf 1 = .ok (.invokestatic 52, 3) := by decide +kernel
theorem dX5_lineOf_4 : decode cX5_lineOf 4 = .ok (.ifCond .eq 12, 3) := by decide +kernel
theorem dX5_lineOf_7 : decode cX5_lineOf 7 = .ok (.iload_n 2, 1) := by decide +kernel
theorem dX5_lineOf_8 : decode cX5_lineOf 8 = .ok (.iconst 0, 1) := by decide +kernel
theorem dX5_lineOf_9 : decode cX5_lineOf 9 = .ok (.iconst 3, 1) := by decide +kernel
theorem dX5_lineOf_10 : decode cX5_lineOf 10 = .ok (.invokestatic 37, 3) := by decide +kernel
theorem dX5_lineOf_13 : decode cX5_lineOf 13 = .ok (.ifCond .ne 5, 3) := by decide +kernel
theorem dX5_lineOf_16 : decode cX5_lineOf 16 = .ok (.iconst (-1), 1) := by decide +kernel
theorem dX5_lineOf_17 : decode cX5_lineOf 17 = .ok (.ireturn, 1) := by decide +kernel
theorem dX5_lineOf_18 : decode cX5_lineOf 18 = .ok (.iload_n 2, 1) := by decide +kernel
theorem dX5_lineOf_19 : decode cX5_lineOf 19 = .ok (.lookupswitch 40 #[(0, 25), (1, 34)], 25) := by decide +kernel
theorem dX5_lineOf_44 : decode cX5_lineOf 44 = .ok (.aload_n 0, 1) := by decide +kernel
theorem dX5_lineOf_45 : decode cX5_lineOf 45 = .ok (.getfield 16, 3) := by decide +kernel
theorem dX5_lineOf_48 : decode cX5_lineOf 48 = .ok (.iconst 3, 1) := by decide +kernel
theorem dX5_lineOf_49 : decode cX5_lineOf 49 = .ok (.iload_n 1, 1) := by decide +kernel
theorem dX5_lineOf_50 : decode cX5_lineOf 50 = .ok (.imul, 1) := by decide +kernel
theorem dX5_lineOf_51 : decode cX5_lineOf 51 = .ok (.iaload, 1) := by decide +kernel
theorem dX5_lineOf_52 : decode cX5_lineOf 52 = .ok (.ireturn, 1) := by decide +kernel
theorem dX5_lineOf_53 : decode cX5_lineOf 53 = .ok (.aload_n 0, 1) := by decide +kernel
theorem dX5_lineOf_54 : decode cX5_lineOf 54 = .ok (.iload_n 1, 1) := by decide +kernel
theorem dX5_lineOf_55 : decode cX5_lineOf 55 = .ok (.invokevirtual 115, 3) := by decide +kernel
theorem dX5_lineOf_58 : decode cX5_lineOf 58 = .ok (.ireturn, 1) := by decide +kernel
theorem dX5_lineOf_59 : decode cX5_lineOf 59 = .ok (.aload_n 0, 1) := by decide +kernel
theorem dX5_lineOf_60 : decode cX5_lineOf 60 = .ok (.getfield 16, 3) := by decide +kernel
theorem dX5_lineOf_63 : decode cX5_lineOf 63 = .ok (.iconst 3, 1) := by decide +kernel
theorem dX5_lineOf_64 : decode cX5_lineOf 64 = .ok (.iload_n 1, 1) := by decide +kernel
theorem dX5_lineOf_65 : decode cX5_lineOf 65 = .ok (.imul, 1) := by decide +kernel
theorem dX5_lineOf_66 : decode cX5_lineOf 66 = .ok (.iload_n 2, 1) := by decide +kernel
theorem dX5_lineOf_67 : decode cX5_lineOf 67 = .ok (.iadd, 1) := by decide +kernel
theorem dX5_lineOf_68 : decode cX5_lineOf 68 = .ok (.iconst 1, 1) := by decide +kernel
theorem dX5_lineOf_69 : decode cX5_lineOf 69 = .ok (.isub, 1) := by decide +kernel
theorem dX5_lineOf_70 : decode cX5_lineOf 70 = .ok (.iaload, 1) := by decide +kernel
theorem dX5_lineOf_71 : decode cX5_lineOf 71 = .ok (.ireturn, 1) := by decide +kernel
theorem dX5_inState_0 : decode cX5_inState 0 = .ok (.iconst 0, 1) := by decide +kernel
theorem dX5_inState_1 : decode cX5_inState 1 = .ok (.istore_n 2, 1) := by decide +kernel
theorem dX5_inState_2 : decode cX5_inState 2 = .ok (.iconst 0, 1) := by decide +kernel
theorem dX5_inState_3 : decode cX5_inState 3 = .ok (.istore_n 3, 1) := by decide +kernel
theorem dX5_inState_4 : decode cX5_inState 4 = .ok (.iload_n 3, 1) := by decide +kernel
theorem dX5_inState_5 : decode cX5_inState 5 = .ok (.aload_n 0, 1) := by decide +kernel
theorem dX5_inState_6 : decode cX5_inState 6 = .ok (.getfield 7, 3) := by decide +kernel
theorem dX5_inState_9 : decode cX5_inState 9 = .ok (.iconst 4, 1) := by decide +kernel
theorem dX5_inState_10 : decode cX5_inState 10 = .ok (.iaload, 1) := by decide +kernel
theorem dX5_inState_11 : decode cX5_inState 11 = .ok (.if_icmp .ge 32, 3) := by decide +kernel
theorem dX5_inState_14 : decode cX5_inState 14 = .ok (.iload_n 2, 1) := by decide +kernel
theorem dX5_inState_15 : decode cX5_inState 15 = .ok (.aload_n 0, 1) := by decide +kernel
theorem dX5_inState_16 : decode cX5_inState 16 = .ok (.getfield 25, 3) := by decide +kernel
theorem dX5_inState_19 : decode cX5_inState 19 = .ok (.bipush 7, 2) := by decide +kernel
theorem dX5_inState_21 : decode cX5_inState 21 = .ok (.iload_n 3, 1) := by decide +kernel
theorem dX5_inState_22 : decode cX5_inState 22 = .ok (.imul, 1) := by decide +kernel
theorem dX5_inState_23 : decode cX5_inState 23 = .ok (.iconst 2, 1) := by decide +kernel
theorem dX5_inState_24 : decode cX5_inState 24 = .ok (.iadd, 1) := by decide +kernel
theorem dX5_inState_25 : decode cX5_inState 25 = .ok (.iaload, 1) := by decide +kernel
theorem dX5_inState_26 : decode cX5_inState 26 = .ok (.iload_n 1, 1) := by decide +kernel
theorem dX5_inState_27 : decode cX5_inState 27 = .ok (.if_icmp .ne 7, 3) := by decide +kernel
theorem dX5_inState_30 : decode cX5_inState 30 = .ok (.iconst 1, 1) := by decide +kernel
theorem dX5_inState_31 : decode cX5_inState 31 = .ok (.goto 4, 3) := by decide +kernel
theorem dX5_inState_34 : decode cX5_inState 34 = .ok (.iconst 0, 1) := by decide +kernel
theorem dX5_inState_35 : decode cX5_inState 35 = .ok (.iadd, 1) := by decide +kernel
theorem dX5_inState_36 : decode cX5_inState 36 = .ok (.istore_n 2, 1) := by decide +kernel
theorem dX5_inState_37 : decode cX5_inState 37 = .ok (.iinc 3 1, 3) := by decide +kernel
theorem dX5_inState_40 : decode cX5_inState 40 = .ok (.goto (-36), 3) := by decide +kernel
theorem dX5_inState_43 : decode cX5_inState 43 = .ok (.iload_n 2, 1) := by decide +kernel
theorem dX5_inState_44 : decode cX5_inState 44 = .ok (.ireturn, 1) := by decide +kernel
theorem dX5_sum_0 : decode cX5_sum 0 = .ok (.iconst 0, 1) := by decide +kernel
theorem dX5_sum_1 : decode cX5_sum 1 = .ok (.istore_n 2, 1) := by decide +kernel
theorem dX5_sum_2 : decode cX5_sum 2 = .ok (.iconst 0, 1) := by decide +kernel
theorem dX5_sum_3 : decode cX5_sum 3 = .ok (.istore_n 3, 1) := by decide +kernel
theorem dX5_sum_4 : decode cX5_sum 4 = .ok (.iload_n 3, 1) := by decide +kernel
theorem dX5_sum_5 : decode cX5_sum 5 = .ok (.aload_n 0, 1) := by decide +kernel
theorem dX5_sum_6 : decode cX5_sum 6 = .ok (.getfield 7, 3) := by decide +kernel
theorem dX5_sum_9 : decode cX5_sum 9 = .ok (.iconst 1, 1) := by decide +kernel
theorem dX5_sum_10 : decode cX5_sum 10 = .ok (.iaload, 1) := by decide +kernel
theorem dX5_sum_11 : decode cX5_sum 11 = .ok (.if_icmp .ge 18, 3) := by decide +kernel
theorem dX5_sum_14 : decode cX5_sum 14 = .ok (.iload_n 2, 1) := by decide +kernel
theorem dX5_sum_15 : decode cX5_sum 15 = .ok (.aload_n 0, 1) := by decide +kernel
theorem dX5_sum_16 : decode cX5_sum 16 = .ok (.iload_n 3, 1) := by decide +kernel
theorem dX5_sum_17 : decode cX5_sum 17 = .ok (.iload_n 1, 1) := by decide +kernel
theorem dX5_sum_18 : decode cX5_sum 18 = .ok (.invokevirtual 124, 3) := by decide +kernel
theorem dX5_sum_21 : decode cX5_sum 21 = .ok (.iadd, 1) := by decide +kernel
theorem dX5_sum_22 : decode cX5_sum 22 = .ok (.istore_n 2, 1) := by decide +kernel
theorem dX5_sum_23 : decode cX5_sum 23 = .ok (.iinc 3 1, 3) := by decide +kernel
theorem dX5_sum_26 : decode cX5_sum 26 = .ok (.goto (-22), 3) := by decide +kernel
theorem dX5_sum_29 : decode cX5_sum 29 = .ok (.iload_n 2, 1) := by decide +kernel
theorem dX5_sum_30 : decode cX5_sum 30 = .ok (.ireturn, 1) := by decide +kernel
theorem dX5_lanes_0 : decode cX5_lanes 0 = .ok (.iconst 0, 1) := by decide +kernel
theorem dX5_lanes_1 : decode cX5_lanes 1 = .ok (.istore_n 1, 1) := by decide +kernel
theorem dX5_lanes_2 : decode cX5_lanes 2 = .ok (.iconst 0, 1) := by decide +kernel
theorem dX5_lanes_3 : decode cX5_lanes 3 = .ok (.istore_n 2, 1) := by decide +kernel
theorem dX5_lanes_4 : decode cX5_lanes 4 = .ok (.iload_n 2, 1) := by decide +kernel
theorem dX5_lanes_5 : decode cX5_lanes 5 = .ok (.aload_n 0, 1) := by decide +kernel
theorem dX5_lanes_6 : decode cX5_lanes 6 = .ok (.getfield 7, 3) := by decide +kernel
theorem dX5_lanes_9 : decode cX5_lanes 9 = .ok (.iconst 0, 1) := by decide +kernel
theorem dX5_lanes_10 : decode cX5_lanes 10 = .ok (.iaload, 1) := by decide +kernel
theorem dX5_lanes_11 : decode cX5_lanes 11 = .ok (.if_icmp .ge 22, 3) := by decide +kernel
theorem dX5_lanes_14 : decode cX5_lanes 14 = .ok (.iload_n 1, 1) := by decide +kernel
theorem dX5_lanes_15 : decode cX5_lanes 15 = .ok (.aload_n 0, 1) := by decide +kernel
theorem dX5_lanes_16 : decode cX5_lanes 16 = .ok (.getfield 13, 3) := by decide +kernel
theorem dX5_lanes_19 : decode cX5_lanes 19 = .ok (.iconst 3, 1) := by decide +kernel
theorem dX5_lanes_20 : decode cX5_lanes 20 = .ok (.iload_n 2, 1) := by decide +kernel
theorem dX5_lanes_21 : decode cX5_lanes 21 = .ok (.imul, 1) := by decide +kernel
theorem dX5_lanes_22 : decode cX5_lanes 22 = .ok (.iconst 2, 1) := by decide +kernel
theorem dX5_lanes_23 : decode cX5_lanes 23 = .ok (.iadd, 1) := by decide +kernel
theorem dX5_lanes_24 : decode cX5_lanes 24 = .ok (.iaload, 1) := by decide +kernel
theorem dX5_lanes_25 : decode cX5_lanes 25 = .ok (.iadd, 1) := by decide +kernel
theorem dX5_lanes_26 : decode cX5_lanes 26 = .ok (.istore_n 1, 1) := by decide +kernel
theorem dX5_lanes_27 : decode cX5_lanes 27 = .ok (.iinc 2 1, 3) := by decide +kernel
theorem dX5_lanes_30 : decode cX5_lanes 30 = .ok (.goto (-26), 3) := by decide +kernel
theorem dX5_lanes_33 : decode cX5_lanes 33 = .ok (.iload_n 1, 1) := by decide +kernel
theorem dX5_lanes_34 : decode cX5_lanes 34 = .ok (.ireturn, 1) := by decide +kernel
theorem dX5_many_0 : decode cX5_many 0 = .ok (.iload_n 1, 1) := by decide +kernel
theorem dX5_many_1 : decode cX5_many 1 = .ok (.tableswitch 123 0 11 #[63, 63, 70, 75, 82, 89, 96, 96, 96, 104, 111, 118], 63) := by decide +kernel
theorem dX5_many_64 : decode cX5_many 64 = .ok (.aload_n 0, 1) := by decide +kernel
theorem dX5_many_65 : decode cX5_many 65 = .ok (.getfield 7, 3) := by decide +kernel
theorem dX5_many_68 : decode cX5_many 68 = .ok (.iload_n 1, 1) := by decide +kernel
theorem dX5_many_69 : decode cX5_many 69 = .ok (.iaload, 1) := by decide +kernel
theorem dX5_many_70 : decode cX5_many 70 = .ok (.ireturn, 1) := by decide +kernel
theorem dX5_many_71 : decode cX5_many 71 = .ok (.aload_n 0, 1) := by decide +kernel
theorem dX5_many_72 : decode cX5_many 72 = .ok (.invokevirtual 90, 3) := by decide +kernel
theorem dX5_many_75 : decode cX5_many 75 = .ok (.ireturn, 1) := by decide +kernel
theorem dX5_many_76 : decode cX5_many 76 = .ok (.aload_n 0, 1) := by decide +kernel
theorem dX5_many_77 : decode cX5_many 77 = .ok (.getfield 7, 3) := by decide +kernel
theorem dX5_many_80 : decode cX5_many 80 = .ok (.iconst 2, 1) := by decide +kernel
theorem dX5_many_81 : decode cX5_many 81 = .ok (.iaload, 1) := by decide +kernel
theorem dX5_many_82 : decode cX5_many 82 = .ok (.ireturn, 1) := by decide +kernel
theorem dX5_many_83 : decode cX5_many 83 = .ok (.aload_n 0, 1) := by decide +kernel
theorem dX5_many_84 : decode cX5_many 84 = .ok (.getfield 7, 3) := by decide +kernel
theorem dX5_many_87 : decode cX5_many 87 = .ok (.iconst 3, 1) := by decide +kernel
theorem dX5_many_88 : decode cX5_many 88 = .ok (.iaload, 1) := by decide +kernel
theorem dX5_many_89 : decode cX5_many 89 = .ok (.ireturn, 1) := by decide +kernel
theorem dX5_many_90 : decode cX5_many 90 = .ok (.aload_n 0, 1) := by decide +kernel
theorem dX5_many_91 : decode cX5_many 91 = .ok (.getfield 7, 3) := by decide +kernel
theorem dX5_many_94 : decode cX5_many 94 = .ok (.iconst 4, 1) := by decide +kernel
theorem dX5_many_95 : decode cX5_many 95 = .ok (.iaload, 1) := by decide +kernel
theorem dX5_many_96 : decode cX5_many 96 = .ok (.ireturn, 1) := by decide +kernel
theorem dX5_many_97 : decode cX5_many 97 = .ok (.aload_n 0, 1) := by decide +kernel
theorem dX5_many_98 : decode cX5_many 98 = .ok (.iload_n 1, 1) := by decide +kernel
theorem dX5_many_99 : decode cX5_many 99 = .ok (.iconst 3, 1) := by decide +kernel
theorem dX5_many_100 : decode cX5_many 100 = .ok (.isub, 1) := by decide +kernel
theorem dX5_many_101 : decode cX5_many 101 = .ok (.invokevirtual 127, 3) := by decide +kernel
theorem dX5_many_104 : decode cX5_many 104 = .ok (.ireturn, 1) := by decide +kernel
theorem dX5_many_105 : decode cX5_many 105 = .ok (.aload_n 0, 1) := by decide +kernel
theorem dX5_many_106 : decode cX5_many 106 = .ok (.bipush 8, 2) := by decide +kernel
theorem dX5_many_108 : decode cX5_many 108 = .ok (.invokevirtual 130, 3) := by decide +kernel
theorem dX5_many_111 : decode cX5_many 111 = .ok (.ireturn, 1) := by decide +kernel
theorem dX5_many_112 : decode cX5_many 112 = .ok (.aload_n 0, 1) := by decide +kernel
theorem dX5_many_113 : decode cX5_many 113 = .ok (.bipush 11, 2) := by decide +kernel
theorem dX5_many_115 : decode cX5_many 115 = .ok (.invokevirtual 130, 3) := by decide +kernel
theorem dX5_many_118 : decode cX5_many 118 = .ok (.ireturn, 1) := by decide +kernel
theorem dX5_many_119 : decode cX5_many 119 = .ok (.aload_n 0, 1) := by decide +kernel
theorem dX5_many_120 : decode cX5_many 120 = .ok (.invokevirtual 133, 3) := by decide +kernel
theorem dX5_many_123 : decode cX5_many 123 = .ok (.ireturn, 1) := by decide +kernel
theorem dX5_many_124 : decode cX5_many 124 = .ok (.iconst (-1), 1) := by decide +kernel
theorem dX5_many_125 : decode cX5_many 125 = .ok (.ireturn, 1) := by decide +kernel
theorem dX5_move_0 : decode cX5_move 0 = .ok (.iconst 0, 1) := by decide +kernel
theorem dX5_move_1 : decode cX5_move 1 = .ok (.istore 4, 2) := by decide +kernel
theorem dX5_move_3 : decode cX5_move 3 = .ok (.iload 4, 2) := by decide +kernel
theorem dX5_move_5 : decode cX5_move 5 = .ok (.iload_n 2, 1) := by decide +kernel
theorem dX5_move_6 : decode cX5_move 6 = .ok (.if_icmp .ge 52, 3) := by decide +kernel
theorem dX5_move_9 : decode cX5_move 9 = .ok (.iload_n 3, 1) := by decide +kernel
theorem dX5_move_10 : decode cX5_move 10 = .ok (.ifCond .eq 19, 3) := by decide +kernel
theorem dX5_move_13 : decode cX5_move 13 = .ok (.aload_n 0, 1) := by decide +kernel
theorem dX5_move_14 : decode cX5_move 14 = .ok (.getfield 28, 3) := by decide +kernel
theorem dX5_move_17 : decode cX5_move 17 = .ok (.aload_n 0, 1) := by decide +kernel
theorem dX5_move_18 : decode cX5_move 18 = .ok (.getfield 136, 3) := by decide +kernel
theorem dX5_move_21 : decode cX5_move 21 = .ok (.aload_n 1, 1) := by decide +kernel
theorem dX5_move_22 : decode cX5_move 22 = .ok (.iload 4, 2) := by decide +kernel
theorem dX5_move_24 : decode cX5_move 24 = .ok (.iaload, 1) := by decide +kernel
theorem dX5_move_25 : decode cX5_move 25 = .ok (.iastore, 1) := by decide +kernel
theorem dX5_move_26 : decode cX5_move 26 = .ok (.goto 16, 3) := by decide +kernel
theorem dX5_move_29 : decode cX5_move 29 = .ok (.aload_n 1, 1) := by decide +kernel
theorem dX5_move_30 : decode cX5_move 30 = .ok (.iload 4, 2) := by decide +kernel
theorem dX5_move_32 : decode cX5_move 32 = .ok (.aload_n 0, 1) := by decide +kernel
theorem dX5_move_33 : decode cX5_move 33 = .ok (.getfield 28, 3) := by decide +kernel
theorem dX5_move_36 : decode cX5_move 36 = .ok (.aload_n 0, 1) := by decide +kernel
theorem dX5_move_37 : decode cX5_move 37 = .ok (.getfield 136, 3) := by decide +kernel
theorem dX5_move_40 : decode cX5_move 40 = .ok (.iaload, 1) := by decide +kernel
theorem dX5_move_41 : decode cX5_move 41 = .ok (.iastore, 1) := by decide +kernel
theorem dX5_move_42 : decode cX5_move 42 = .ok (.aload_n 0, 1) := by decide +kernel
theorem dX5_move_43 : decode cX5_move 43 = .ok (.dup, 1) := by decide +kernel
theorem dX5_move_44 : decode cX5_move 44 = .ok (.getfield 136, 3) := by decide +kernel
theorem dX5_move_47 : decode cX5_move 47 = .ok (.iconst 1, 1) := by decide +kernel
theorem dX5_move_48 : decode cX5_move 48 = .ok (.iadd, 1) := by decide +kernel
theorem dX5_move_49 : decode cX5_move 49 = .ok (.putfield 136, 3) := by decide +kernel
theorem dX5_move_52 : decode cX5_move 52 = .ok (.iinc 4 1, 3) := by decide +kernel
theorem dX5_move_55 : decode cX5_move 55 = .ok (.goto (-52), 3) := by decide +kernel
theorem dX5_move_58 : decode cX5_move 58 = .ok (.return_, 1) := by decide +kernel
theorem dX5_moveAll_0 : decode cX5_moveAll 0 = .ok (.aload_n 0, 1) := by decide +kernel
theorem dX5_moveAll_1 : decode cX5_moveAll 1 = .ok (.iconst 0, 1) := by decide +kernel
theorem dX5_moveAll_2 : decode cX5_moveAll 2 = .ok (.putfield 136, 3) := by decide +kernel
theorem dX5_moveAll_5 : decode cX5_moveAll 5 = .ok (.aload_n 0, 1) := by decide +kernel
theorem dX5_moveAll_6 : decode cX5_moveAll 6 = .ok (.aload_n 0, 1) := by decide +kernel
theorem dX5_moveAll_7 : decode cX5_moveAll 7 = .ok (.getfield 7, 3) := by decide +kernel
theorem dX5_moveAll_10 : decode cX5_moveAll 10 = .ok (.bipush 8, 2) := by decide +kernel
theorem dX5_moveAll_12 : decode cX5_moveAll 12 = .ok (.iload_n 1, 1) := by decide +kernel
theorem dX5_moveAll_13 : decode cX5_moveAll 13 = .ok (.invokevirtual 139, 3) := by decide +kernel
theorem dX5_moveAll_16 : decode cX5_moveAll 16 = .ok (.aload_n 0, 1) := by decide +kernel
theorem dX5_moveAll_17 : decode cX5_moveAll 17 = .ok (.aload_n 0, 1) := by decide +kernel
theorem dX5_moveAll_18 : decode cX5_moveAll 18 = .ok (.getfield 13, 3) := by decide +kernel
theorem dX5_moveAll_21 : decode cX5_moveAll 21 = .ok (.bipush 24, 2) := by decide +kernel
theorem dX5_moveAll_23 : decode cX5_moveAll 23 = .ok (.iload_n 1, 1) := by decide +kernel
theorem dX5_moveAll_24 : decode cX5_moveAll 24 = .ok (.invokevirtual 139, 3) := by decide +kernel
theorem dX5_moveAll_27 : decode cX5_moveAll 27 = .ok (.aload_n 0, 1) := by decide +kernel
theorem dX5_moveAll_28 : decode cX5_moveAll 28 = .ok (.aload_n 0, 1) := by decide +kernel
theorem dX5_moveAll_29 : decode cX5_moveAll 29 = .ok (.getfield 16, 3) := by decide +kernel
theorem dX5_moveAll_32 : decode cX5_moveAll 32 = .ok (.bipush 9, 2) := by decide +kernel
theorem dX5_moveAll_34 : decode cX5_moveAll 34 = .ok (.iload_n 1, 1) := by decide +kernel
theorem dX5_moveAll_35 : decode cX5_moveAll 35 = .ok (.invokevirtual 139, 3) := by decide +kernel
theorem dX5_moveAll_38 : decode cX5_moveAll 38 = .ok (.aload_n 0, 1) := by decide +kernel
theorem dX5_moveAll_39 : decode cX5_moveAll 39 = .ok (.aload_n 0, 1) := by decide +kernel
theorem dX5_moveAll_40 : decode cX5_moveAll 40 = .ok (.getfield 19, 3) := by decide +kernel
theorem dX5_moveAll_43 : decode cX5_moveAll 43 = .ok (.bipush 16, 2) := by decide +kernel
theorem dX5_moveAll_45 : decode cX5_moveAll 45 = .ok (.iload_n 1, 1) := by decide +kernel
theorem dX5_moveAll_46 : decode cX5_moveAll 46 = .ok (.invokevirtual 139, 3) := by decide +kernel
theorem dX5_moveAll_49 : decode cX5_moveAll 49 = .ok (.aload_n 0, 1) := by decide +kernel
theorem dX5_moveAll_50 : decode cX5_moveAll 50 = .ok (.aload_n 0, 1) := by decide +kernel
theorem dX5_moveAll_51 : decode cX5_moveAll 51 = .ok (.getfield 22, 3) := by decide +kernel
theorem dX5_moveAll_54 : decode cX5_moveAll 54 = .ok (.bipush 55, 2) := by decide +kernel
theorem dX5_moveAll_56 : decode cX5_moveAll 56 = .ok (.iload_n 1, 1) := by decide +kernel
theorem dX5_moveAll_57 : decode cX5_moveAll 57 = .ok (.invokevirtual 139, 3) := by decide +kernel
theorem dX5_moveAll_60 : decode cX5_moveAll 60 = .ok (.aload_n 0, 1) := by decide +kernel
theorem dX5_moveAll_61 : decode cX5_moveAll 61 = .ok (.aload_n 0, 1) := by decide +kernel
theorem dX5_moveAll_62 : decode cX5_moveAll 62 = .ok (.getfield 25, 3) := by decide +kernel
theorem dX5_moveAll_65 : decode cX5_moveAll 65 = .ok (.sipush 140, 3) := by decide +kernel
theorem dX5_moveAll_68 : decode cX5_moveAll 68 = .ok (.iload_n 1, 1) := by decide +kernel
theorem dX5_moveAll_69 : decode cX5_moveAll 69 = .ok (.invokevirtual 139, 3) := by decide +kernel
theorem dX5_moveAll_72 : decode cX5_moveAll 72 = .ok (.return_, 1) := by decide +kernel
theorem dX5_keep_0 : decode cX5_keep 0 = .ok (.aload_n 0, 1) := by decide +kernel
theorem dX5_keep_1 : decode cX5_keep 1 = .ok (.iconst 1, 1) := by decide +kernel
theorem dX5_keep_2 : decode cX5_keep 2 = .ok (.invokevirtual 143, 3) := by decide +kernel
theorem dX5_keep_5 : decode cX5_keep 5 = .ok (.aload_n 0, 1) := by decide +kernel
theorem dX5_keep_6 : decode cX5_keep 6 = .ok (.iconst 1, 1) := by decide +kernel
theorem dX5_keep_7 : decode cX5_keep 7 = .ok (.putfield 147, 3) := by decide +kernel
theorem dX5_keep_10 : decode cX5_keep 10 = .ok (.iconst 1, 1) := by decide +kernel
theorem dX5_keep_11 : decode cX5_keep 11 = .ok (.ireturn, 1) := by decide +kernel
theorem dX5_back_0 : decode cX5_back 0 = .ok (.aload_n 0, 1) := by decide +kernel
theorem dX5_back_1 : decode cX5_back 1 = .ok (.getfield 147, 3) := by decide +kernel
theorem dX5_back_4 : decode cX5_back 4 = .ok (.ifCond .ne 6, 3) := by decide +kernel
theorem dX5_back_7 : decode cX5_back 7 = .ok (.bipush (-4), 2) := by decide +kernel
theorem dX5_back_9 : decode cX5_back 9 = .ok (.ireturn, 1) := by decide +kernel
theorem dX5_back_10 : decode cX5_back 10 = .ok (.aload_n 0, 1) := by decide +kernel
theorem dX5_back_11 : decode cX5_back 11 = .ok (.iconst 0, 1) := by decide +kernel
theorem dX5_back_12 : decode cX5_back 12 = .ok (.invokevirtual 143, 3) := by decide +kernel
theorem dX5_back_15 : decode cX5_back 15 = .ok (.iconst 1, 1) := by decide +kernel
theorem dX5_back_16 : decode cX5_back 16 = .ok (.ireturn, 1) := by decide +kernel
theorem dJ9_abs_0f7a4_0 : decode cJ9_abs_0f7a4 0 = .ok (.iload_n 0, 1) := by decide +kernel
theorem dJ9_abs_0f7a4_1 : decode cJ9_abs_0f7a4 1 = .ok (.ifCond .ge 8, 3) := by decide +kernel
theorem dJ9_abs_0f7a4_4 : decode cJ9_abs_0f7a4 4 = .ok (.iload_n 0, 1) := by decide +kernel
theorem dJ9_abs_0f7a4_5 : decode cJ9_abs_0f7a4 5 = .ok (.ineg, 1) := by decide +kernel
theorem dJ9_abs_0f7a4_6 : decode cJ9_abs_0f7a4 6 = .ok (.goto 4, 3) := by decide +kernel
theorem dJ9_abs_0f7a4_9 : decode cJ9_abs_0f7a4 9 = .ok (.iload_n 0, 1) := by decide +kernel
theorem dJ9_abs_0f7a4_10 : decode cJ9_abs_0f7a4 10 = .ok (.ireturn, 1) := by decide +kernel
theorem dJ9_min_7cf53_0 : decode cJ9_min_7cf53 0 = .ok (.iload_n 0, 1) := by decide +kernel
theorem dJ9_min_7cf53_1 : decode cJ9_min_7cf53 1 = .ok (.iload_n 1, 1) := by decide +kernel
theorem dJ9_min_7cf53_2 : decode cJ9_min_7cf53 2 = .ok (.if_icmp .gt 7, 3) := by decide +kernel
theorem dJ9_min_7cf53_5 : decode cJ9_min_7cf53 5 = .ok (.iload_n 0, 1) := by decide +kernel
theorem dJ9_min_7cf53_6 : decode cJ9_min_7cf53 6 = .ok (.goto 4, 3) := by decide +kernel
theorem dJ9_min_7cf53_9 : decode cJ9_min_7cf53 9 = .ok (.iload_n 1, 1) := by decide +kernel
theorem dJ9_min_7cf53_10 : decode cJ9_min_7cf53 10 = .ok (.ireturn, 1) := by decide +kernel
theorem dL_law_0 : decode cL_law 0 = .ok (.new 7, 3) := by decide +kernel
theorem dL_law_3 : decode cL_law 3 = .ok (.dup, 1) := by decide +kernel
theorem dL_law_4 : decode cL_law 4 = .ok (.invokespecial 9, 3) := by decide +kernel
theorem dL_law_7 : decode cL_law 7 = .ok (.astore_n 1, 1) := by decide +kernel
theorem dL_law_8 : decode cL_law 8 = .ok (.new 10, 3) := by decide +kernel
theorem dL_law_11 : decode cL_law 11 = .ok (.dup, 1) := by decide +kernel
theorem dL_law_12 : decode cL_law 12 = .ok (.invokespecial 12, 3) := by decide +kernel
theorem dL_law_15 : decode cL_law 15 = .ok (.astore_n 2, 1) := by decide +kernel
theorem dL_law_16 : decode cL_law 16 = .ok (.iconst 0, 1) := by decide +kernel
theorem dL_law_17 : decode cL_law 17 = .ok (.istore_n 3, 1) := by decide +kernel
theorem dL_law_18 : decode cL_law 18 = .ok (.iload_n 3, 1) := by decide +kernel
theorem dL_law_19 : decode cL_law 19 = .ok (.aload_n 0, 1) := by decide +kernel
theorem dL_law_20 : decode cL_law 20 = .ok (.arraylength, 1) := by decide +kernel
theorem dL_law_21 : decode cL_law 21 = .ok (.bipush 7, 2) := by decide +kernel
theorem dL_law_23 : decode cL_law 23 = .ok (.isub, 1) := by decide +kernel
theorem dL_law_24 : decode cL_law 24 = .ok (.if_icmp .gt 849, 3) := by decide +kernel
theorem dL_law_27 : decode cL_law 27 = .ok (.aload_n 0, 1) := by decide +kernel
theorem dL_law_28 : decode cL_law 28 = .ok (.iload_n 3, 1) := by decide +kernel
theorem dL_law_29 : decode cL_law 29 = .ok (.iaload, 1) := by decide +kernel
theorem dL_law_30 : decode cL_law 30 = .ok (.bipush 31, 2) := by decide +kernel
theorem dL_law_32 : decode cL_law 32 = .ok (.iand, 1) := by decide +kernel
theorem dL_law_33 : decode cL_law 33 = .ok (.tableswitch 834 0 22 #[107, 130, 173, 206, 265, 298, 373, 416, 449, 472, 495, 508, 541, 564, 597, 620, 643, 676, 709, 752, 785, 808, 821], 107) := by decide +kernel
theorem dL_law_140 : decode cL_law 140 = .ok (.aload_n 1, 1) := by decide +kernel
theorem dL_law_141 : decode cL_law 141 = .ok (.aload_n 0, 1) := by decide +kernel
theorem dL_law_142 : decode cL_law 142 = .ok (.iload_n 3, 1) := by decide +kernel
theorem dL_law_143 : decode cL_law 143 = .ok (.iconst 1, 1) := by decide +kernel
theorem dL_law_144 : decode cL_law 144 = .ok (.iadd, 1) := by decide +kernel
theorem dL_law_145 : decode cL_law 145 = .ok (.iaload, 1) := by decide +kernel
theorem dL_law_146 : decode cL_law 146 = .ok (.invokevirtual 13, 3) := by decide +kernel
theorem dL_law_149 : decode cL_law 149 = .ok (.aload_n 2, 1) := by decide +kernel
theorem dL_law_150 : decode cL_law 150 = .ok (.aload_n 0, 1) := by decide +kernel
theorem dL_law_151 : decode cL_law 151 = .ok (.iload_n 3, 1) := by decide +kernel
theorem dL_law_152 : decode cL_law 152 = .ok (.iconst 1, 1) := by decide +kernel
theorem dL_law_153 : decode cL_law 153 = .ok (.iadd, 1) := by decide +kernel
theorem dL_law_154 : decode cL_law 154 = .ok (.iaload, 1) := by decide +kernel
theorem dL_law_155 : decode cL_law 155 = .ok (.invokevirtual 17, 3) := by decide +kernel
theorem dL_law_158 : decode cL_law 158 = .ok (.if_icmp .eq 709, 3) := by decide +kernel
theorem dL_law_161 : decode cL_law 161 = .ok (.iconst 0, 1) := by decide +kernel
theorem dL_law_162 : decode cL_law 162 = .ok (.ireturn, 1) := by decide +kernel
theorem dL_law_163 : decode cL_law 163 = .ok (.aload_n 1, 1) := by decide +kernel
theorem dL_law_164 : decode cL_law 164 = .ok (.aload_n 0, 1) := by decide +kernel
theorem dL_law_165 : decode cL_law 165 = .ok (.iload_n 3, 1) := by decide +kernel
theorem dL_law_166 : decode cL_law 166 = .ok (.iconst 1, 1) := by decide +kernel
theorem dL_law_167 : decode cL_law 167 = .ok (.iadd, 1) := by decide +kernel
theorem dL_law_168 : decode cL_law 168 = .ok (.iaload, 1) := by decide +kernel
theorem dL_law_169 : decode cL_law 169 = .ok (.aload_n 0, 1) := by decide +kernel
theorem dL_law_170 : decode cL_law 170 = .ok (.iload_n 3, 1) := by decide +kernel
theorem dL_law_171 : decode cL_law 171 = .ok (.iconst 2, 1) := by decide +kernel
theorem dL_law_172 : decode cL_law 172 = .ok (.iadd, 1) := by decide +kernel
theorem dL_law_173 : decode cL_law 173 = .ok (.iaload, 1) := by decide +kernel
theorem dL_law_174 : decode cL_law 174 = .ok (.aload_n 0, 1) := by decide +kernel
theorem dL_law_175 : decode cL_law 175 = .ok (.iload_n 3, 1) := by decide +kernel
theorem dL_law_176 : decode cL_law 176 = .ok (.iconst 3, 1) := by decide +kernel
theorem dL_law_177 : decode cL_law 177 = .ok (.iadd, 1) := by decide +kernel
theorem dL_law_178 : decode cL_law 178 = .ok (.iaload, 1) := by decide +kernel
theorem dL_law_179 : decode cL_law 179 = .ok (.invokevirtual 18, 3) := by decide +kernel
theorem dL_law_182 : decode cL_law 182 = .ok (.aload_n 2, 1) := by decide +kernel
theorem dL_law_183 : decode cL_law 183 = .ok (.aload_n 0, 1) := by decide +kernel
theorem dL_law_184 : decode cL_law 184 = .ok (.iload_n 3, 1) := by decide +kernel
theorem dL_law_185 : decode cL_law 185 = .ok (.iconst 1, 1) := by decide +kernel
theorem dL_law_186 : decode cL_law 186 = .ok (.iadd, 1) := by decide +kernel
theorem dL_law_187 : decode cL_law 187 = .ok (.iaload, 1) := by decide +kernel
theorem dL_law_188 : decode cL_law 188 = .ok (.aload_n 0, 1) := by decide +kernel
theorem dL_law_189 : decode cL_law 189 = .ok (.iload_n 3, 1) := by decide +kernel
theorem dL_law_190 : decode cL_law 190 = .ok (.iconst 2, 1) := by decide +kernel
theorem dL_law_191 : decode cL_law 191 = .ok (.iadd, 1) := by decide +kernel
theorem dL_law_192 : decode cL_law 192 = .ok (.iaload, 1) := by decide +kernel
theorem dL_law_193 : decode cL_law 193 = .ok (.aload_n 0, 1) := by decide +kernel
theorem dL_law_194 : decode cL_law 194 = .ok (.iload_n 3, 1) := by decide +kernel
theorem dL_law_195 : decode cL_law 195 = .ok (.iconst 3, 1) := by decide +kernel
theorem dL_law_196 : decode cL_law 196 = .ok (.iadd, 1) := by decide +kernel
theorem dL_law_197 : decode cL_law 197 = .ok (.iaload, 1) := by decide +kernel
theorem dL_law_198 : decode cL_law 198 = .ok (.invokevirtual 22, 3) := by decide +kernel
theorem dL_law_201 : decode cL_law 201 = .ok (.if_icmp .eq 666, 3) := by decide +kernel
theorem dL_law_204 : decode cL_law 204 = .ok (.iconst 0, 1) := by decide +kernel
theorem dL_law_205 : decode cL_law 205 = .ok (.ireturn, 1) := by decide +kernel
theorem dL_law_206 : decode cL_law 206 = .ok (.aload_n 1, 1) := by decide +kernel
theorem dL_law_207 : decode cL_law 207 = .ok (.aload_n 0, 1) := by decide +kernel
theorem dL_law_208 : decode cL_law 208 = .ok (.iload_n 3, 1) := by decide +kernel
theorem dL_law_209 : decode cL_law 209 = .ok (.iconst 1, 1) := by decide +kernel
theorem dL_law_210 : decode cL_law 210 = .ok (.iadd, 1) := by decide +kernel
theorem dL_law_211 : decode cL_law 211 = .ok (.iaload, 1) := by decide +kernel
theorem dL_law_212 : decode cL_law 212 = .ok (.aload_n 0, 1) := by decide +kernel
theorem dL_law_213 : decode cL_law 213 = .ok (.iload_n 3, 1) := by decide +kernel
theorem dL_law_214 : decode cL_law 214 = .ok (.iconst 2, 1) := by decide +kernel
theorem dL_law_215 : decode cL_law 215 = .ok (.iadd, 1) := by decide +kernel
theorem dL_law_216 : decode cL_law 216 = .ok (.iaload, 1) := by decide +kernel
theorem dL_law_217 : decode cL_law 217 = .ok (.invokevirtual 23, 3) := by decide +kernel
theorem dL_law_220 : decode cL_law 220 = .ok (.aload_n 2, 1) := by decide +kernel
theorem dL_law_221 : decode cL_law 221 = .ok (.aload_n 0, 1) := by decide +kernel
theorem dL_law_222 : decode cL_law 222 = .ok (.iload_n 3, 1) := by decide +kernel
theorem dL_law_223 : decode cL_law 223 = .ok (.iconst 1, 1) := by decide +kernel
theorem dL_law_224 : decode cL_law 224 = .ok (.iadd, 1) := by decide +kernel
theorem dL_law_225 : decode cL_law 225 = .ok (.iaload, 1) := by decide +kernel
theorem dL_law_226 : decode cL_law 226 = .ok (.aload_n 0, 1) := by decide +kernel
theorem dL_law_227 : decode cL_law 227 = .ok (.iload_n 3, 1) := by decide +kernel
theorem dL_law_228 : decode cL_law 228 = .ok (.iconst 2, 1) := by decide +kernel
theorem dL_law_229 : decode cL_law 229 = .ok (.iadd, 1) := by decide +kernel
theorem dL_law_230 : decode cL_law 230 = .ok (.iaload, 1) := by decide +kernel
theorem dL_law_231 : decode cL_law 231 = .ok (.invokevirtual 27, 3) := by decide +kernel
theorem dL_law_234 : decode cL_law 234 = .ok (.if_icmp .eq 633, 3) := by decide +kernel
theorem dL_law_237 : decode cL_law 237 = .ok (.iconst 0, 1) := by decide +kernel
theorem dL_law_238 : decode cL_law 238 = .ok (.ireturn, 1) := by decide +kernel
theorem dL_law_239 : decode cL_law 239 = .ok (.aload_n 1, 1) := by decide +kernel
theorem dL_law_240 : decode cL_law 240 = .ok (.aload_n 0, 1) := by decide +kernel
theorem dL_law_241 : decode cL_law 241 = .ok (.iload_n 3, 1) := by decide +kernel
theorem dL_law_242 : decode cL_law 242 = .ok (.iconst 1, 1) := by decide +kernel
theorem dL_law_243 : decode cL_law 243 = .ok (.iadd, 1) := by decide +kernel
theorem dL_law_244 : decode cL_law 244 = .ok (.iaload, 1) := by decide +kernel
theorem dL_law_245 : decode cL_law 245 = .ok (.aload_n 0, 1) := by decide +kernel
theorem dL_law_246 : decode cL_law 246 = .ok (.iload_n 3, 1) := by decide +kernel
theorem dL_law_247 : decode cL_law 247 = .ok (.iconst 2, 1) := by decide +kernel
theorem dL_law_248 : decode cL_law 248 = .ok (.iadd, 1) := by decide +kernel
theorem dL_law_249 : decode cL_law 249 = .ok (.iaload, 1) := by decide +kernel
theorem dL_law_250 : decode cL_law 250 = .ok (.aload_n 0, 1) := by decide +kernel
theorem dL_law_251 : decode cL_law 251 = .ok (.iload_n 3, 1) := by decide +kernel
theorem dL_law_252 : decode cL_law 252 = .ok (.iconst 3, 1) := by decide +kernel
theorem dL_law_253 : decode cL_law 253 = .ok (.iadd, 1) := by decide +kernel
theorem dL_law_254 : decode cL_law 254 = .ok (.iaload, 1) := by decide +kernel
theorem dL_law_255 : decode cL_law 255 = .ok (.ifCond .eq 7, 3) := by decide +kernel
theorem dL_law_258 : decode cL_law 258 = .ok (.iconst 1, 1) := by decide +kernel
theorem dL_law_259 : decode cL_law 259 = .ok (.goto 4, 3) := by decide +kernel
theorem dL_law_262 : decode cL_law 262 = .ok (.iconst 0, 1) := by decide +kernel
theorem dL_law_263 : decode cL_law 263 = .ok (.invokevirtual 28, 3) := by decide +kernel
theorem dL_law_266 : decode cL_law 266 = .ok (.aload_n 2, 1) := by decide +kernel
theorem dL_law_267 : decode cL_law 267 = .ok (.aload_n 0, 1) := by decide +kernel
theorem dL_law_268 : decode cL_law 268 = .ok (.iload_n 3, 1) := by decide +kernel
theorem dL_law_269 : decode cL_law 269 = .ok (.iconst 1, 1) := by decide +kernel
theorem dL_law_270 : decode cL_law 270 = .ok (.iadd, 1) := by decide +kernel
theorem dL_law_271 : decode cL_law 271 = .ok (.iaload, 1) := by decide +kernel
theorem dL_law_272 : decode cL_law 272 = .ok (.aload_n 0, 1) := by decide +kernel
theorem dL_law_273 : decode cL_law 273 = .ok (.iload_n 3, 1) := by decide +kernel
theorem dL_law_274 : decode cL_law 274 = .ok (.iconst 2, 1) := by decide +kernel
theorem dL_law_275 : decode cL_law 275 = .ok (.iadd, 1) := by decide +kernel
theorem dL_law_276 : decode cL_law 276 = .ok (.iaload, 1) := by decide +kernel
theorem dL_law_277 : decode cL_law 277 = .ok (.aload_n 0, 1) := by decide +kernel
theorem dL_law_278 : decode cL_law 278 = .ok (.iload_n 3, 1) := by decide +kernel
theorem dL_law_279 : decode cL_law 279 = .ok (.iconst 3, 1) := by decide +kernel
theorem dL_law_280 : decode cL_law 280 = .ok (.iadd, 1) := by decide +kernel
theorem dL_law_281 : decode cL_law 281 = .ok (.iaload, 1) := by decide +kernel
theorem dL_law_282 : decode cL_law 282 = .ok (.ifCond .eq 7, 3) := by decide +kernel
theorem dL_law_285 : decode cL_law 285 = .ok (.iconst 1, 1) := by decide +kernel
theorem dL_law_286 : decode cL_law 286 = .ok (.goto 4, 3) := by decide +kernel
theorem dL_law_289 : decode cL_law 289 = .ok (.iconst 0, 1) := by decide +kernel
theorem dL_law_290 : decode cL_law 290 = .ok (.invokevirtual 32, 3) := by decide +kernel
theorem dL_law_293 : decode cL_law 293 = .ok (.if_icmp .eq 574, 3) := by decide +kernel
theorem dL_law_296 : decode cL_law 296 = .ok (.iconst 0, 1) := by decide +kernel
theorem dL_law_297 : decode cL_law 297 = .ok (.ireturn, 1) := by decide +kernel
theorem dL_law_298 : decode cL_law 298 = .ok (.aload_n 1, 1) := by decide +kernel
theorem dL_law_299 : decode cL_law 299 = .ok (.aload_n 0, 1) := by decide +kernel
theorem dL_law_300 : decode cL_law 300 = .ok (.iload_n 3, 1) := by decide +kernel
theorem dL_law_301 : decode cL_law 301 = .ok (.iconst 1, 1) := by decide +kernel
theorem dL_law_302 : decode cL_law 302 = .ok (.iadd, 1) := by decide +kernel
theorem dL_law_303 : decode cL_law 303 = .ok (.iaload, 1) := by decide +kernel
theorem dL_law_304 : decode cL_law 304 = .ok (.aload_n 0, 1) := by decide +kernel
theorem dL_law_305 : decode cL_law 305 = .ok (.iload_n 3, 1) := by decide +kernel
theorem dL_law_306 : decode cL_law 306 = .ok (.iconst 2, 1) := by decide +kernel
theorem dL_law_307 : decode cL_law 307 = .ok (.iadd, 1) := by decide +kernel
theorem dL_law_308 : decode cL_law 308 = .ok (.iaload, 1) := by decide +kernel
theorem dL_law_309 : decode cL_law 309 = .ok (.invokevirtual 33, 3) := by decide +kernel
theorem dL_law_312 : decode cL_law 312 = .ok (.aload_n 2, 1) := by decide +kernel
theorem dL_law_313 : decode cL_law 313 = .ok (.aload_n 0, 1) := by decide +kernel
theorem dL_law_314 : decode cL_law 314 = .ok (.iload_n 3, 1) := by decide +kernel
theorem dL_law_315 : decode cL_law 315 = .ok (.iconst 1, 1) := by decide +kernel
theorem dL_law_316 : decode cL_law 316 = .ok (.iadd, 1) := by decide +kernel
theorem dL_law_317 : decode cL_law 317 = .ok (.iaload, 1) := by decide +kernel
theorem dL_law_318 : decode cL_law 318 = .ok (.aload_n 0, 1) := by decide +kernel
theorem dL_law_319 : decode cL_law 319 = .ok (.iload_n 3, 1) := by decide +kernel
theorem dL_law_320 : decode cL_law 320 = .ok (.iconst 2, 1) := by decide +kernel
theorem dL_law_321 : decode cL_law 321 = .ok (.iadd, 1) := by decide +kernel
theorem dL_law_322 : decode cL_law 322 = .ok (.iaload, 1) := by decide +kernel
theorem dL_law_323 : decode cL_law 323 = .ok (.invokevirtual 36, 3) := by decide +kernel
theorem dL_law_326 : decode cL_law 326 = .ok (.if_icmp .eq 541, 3) := by decide +kernel
theorem dL_law_329 : decode cL_law 329 = .ok (.iconst 0, 1) := by decide +kernel
theorem dL_law_330 : decode cL_law 330 = .ok (.ireturn, 1) := by decide +kernel
theorem dL_law_331 : decode cL_law 331 = .ok (.aload_n 1, 1) := by decide +kernel
theorem dL_law_332 : decode cL_law 332 = .ok (.aload_n 0, 1) := by decide +kernel
theorem dL_law_333 : decode cL_law 333 = .ok (.iload_n 3, 1) := by decide +kernel
theorem dL_law_334 : decode cL_law 334 = .ok (.iconst 1, 1) := by decide +kernel
theorem dL_law_335 : decode cL_law 335 = .ok (.iadd, 1) := by decide +kernel
theorem dL_law_336 : decode cL_law 336 = .ok (.iaload, 1) := by decide +kernel
theorem dL_law_337 : decode cL_law 337 = .ok (.aload_n 0, 1) := by decide +kernel
theorem dL_law_338 : decode cL_law 338 = .ok (.iload_n 3, 1) := by decide +kernel
theorem dL_law_339 : decode cL_law 339 = .ok (.iconst 2, 1) := by decide +kernel
theorem dL_law_340 : decode cL_law 340 = .ok (.iadd, 1) := by decide +kernel
theorem dL_law_341 : decode cL_law 341 = .ok (.iaload, 1) := by decide +kernel
theorem dL_law_342 : decode cL_law 342 = .ok (.aload_n 0, 1) := by decide +kernel
theorem dL_law_343 : decode cL_law 343 = .ok (.iload_n 3, 1) := by decide +kernel
theorem dL_law_344 : decode cL_law 344 = .ok (.iconst 3, 1) := by decide +kernel
theorem dL_law_345 : decode cL_law 345 = .ok (.iadd, 1) := by decide +kernel
theorem dL_law_346 : decode cL_law 346 = .ok (.iaload, 1) := by decide +kernel
theorem dL_law_347 : decode cL_law 347 = .ok (.aload_n 0, 1) := by decide +kernel
theorem dL_law_348 : decode cL_law 348 = .ok (.iload_n 3, 1) := by decide +kernel
theorem dL_law_349 : decode cL_law 349 = .ok (.iconst 4, 1) := by decide +kernel
theorem dL_law_350 : decode cL_law 350 = .ok (.iadd, 1) := by decide +kernel
theorem dL_law_351 : decode cL_law 351 = .ok (.iaload, 1) := by decide +kernel
theorem dL_law_352 : decode cL_law 352 = .ok (.aload_n 0, 1) := by decide +kernel
theorem dL_law_353 : decode cL_law 353 = .ok (.iload_n 3, 1) := by decide +kernel
theorem dL_law_354 : decode cL_law 354 = .ok (.iconst 5, 1) := by decide +kernel
theorem dL_law_355 : decode cL_law 355 = .ok (.iadd, 1) := by decide +kernel
theorem dL_law_356 : decode cL_law 356 = .ok (.iaload, 1) := by decide +kernel
theorem dL_law_357 : decode cL_law 357 = .ok (.aload_n 0, 1) := by decide +kernel
theorem dL_law_358 : decode cL_law 358 = .ok (.iload_n 3, 1) := by decide +kernel
theorem dL_law_359 : decode cL_law 359 = .ok (.bipush 6, 2) := by decide +kernel
theorem dL_law_361 : decode cL_law 361 = .ok (.iadd, 1) := by decide +kernel
theorem dL_law_362 : decode cL_law 362 = .ok (.iaload, 1) := by decide +kernel
theorem dL_law_363 : decode cL_law 363 = .ok (.invokevirtual 37, 3) := by decide +kernel
theorem dL_law_366 : decode cL_law 366 = .ok (.aload_n 2, 1) := by decide +kernel
theorem dL_law_367 : decode cL_law 367 = .ok (.aload_n 0, 1) := by decide +kernel
theorem dL_law_368 : decode cL_law 368 = .ok (.iload_n 3, 1) := by decide +kernel
theorem dL_law_369 : decode cL_law 369 = .ok (.iconst 1, 1) := by decide +kernel
theorem dL_law_370 : decode cL_law 370 = .ok (.iadd, 1) := by decide +kernel
theorem dL_law_371 : decode cL_law 371 = .ok (.iaload, 1) := by decide +kernel
theorem dL_law_372 : decode cL_law 372 = .ok (.aload_n 0, 1) := by decide +kernel
theorem dL_law_373 : decode cL_law 373 = .ok (.iload_n 3, 1) := by decide +kernel
theorem dL_law_374 : decode cL_law 374 = .ok (.iconst 2, 1) := by decide +kernel
theorem dL_law_375 : decode cL_law 375 = .ok (.iadd, 1) := by decide +kernel
theorem dL_law_376 : decode cL_law 376 = .ok (.iaload, 1) := by decide +kernel
theorem dL_law_377 : decode cL_law 377 = .ok (.aload_n 0, 1) := by decide +kernel
theorem dL_law_378 : decode cL_law 378 = .ok (.iload_n 3, 1) := by decide +kernel
theorem dL_law_379 : decode cL_law 379 = .ok (.iconst 3, 1) := by decide +kernel
theorem dL_law_380 : decode cL_law 380 = .ok (.iadd, 1) := by decide +kernel
theorem dL_law_381 : decode cL_law 381 = .ok (.iaload, 1) := by decide +kernel
theorem dL_law_382 : decode cL_law 382 = .ok (.aload_n 0, 1) := by decide +kernel
theorem dL_law_383 : decode cL_law 383 = .ok (.iload_n 3, 1) := by decide +kernel
theorem dL_law_384 : decode cL_law 384 = .ok (.iconst 4, 1) := by decide +kernel
theorem dL_law_385 : decode cL_law 385 = .ok (.iadd, 1) := by decide +kernel
theorem dL_law_386 : decode cL_law 386 = .ok (.iaload, 1) := by decide +kernel
theorem dL_law_387 : decode cL_law 387 = .ok (.aload_n 0, 1) := by decide +kernel
theorem dL_law_388 : decode cL_law 388 = .ok (.iload_n 3, 1) := by decide +kernel
theorem dL_law_389 : decode cL_law 389 = .ok (.iconst 5, 1) := by decide +kernel
theorem dL_law_390 : decode cL_law 390 = .ok (.iadd, 1) := by decide +kernel
theorem dL_law_391 : decode cL_law 391 = .ok (.iaload, 1) := by decide +kernel
theorem dL_law_392 : decode cL_law 392 = .ok (.aload_n 0, 1) := by decide +kernel
theorem dL_law_393 : decode cL_law 393 = .ok (.iload_n 3, 1) := by decide +kernel
theorem dL_law_394 : decode cL_law 394 = .ok (.bipush 6, 2) := by decide +kernel
theorem dL_law_396 : decode cL_law 396 = .ok (.iadd, 1) := by decide +kernel
theorem dL_law_397 : decode cL_law 397 = .ok (.iaload, 1) := by decide +kernel
theorem dL_law_398 : decode cL_law 398 = .ok (.invokevirtual 41, 3) := by decide +kernel
theorem dL_law_401 : decode cL_law 401 = .ok (.if_icmp .eq 466, 3) := by decide +kernel
theorem dL_law_404 : decode cL_law 404 = .ok (.iconst 0, 1) := by decide +kernel
theorem dL_law_405 : decode cL_law 405 = .ok (.ireturn, 1) := by decide +kernel
theorem dL_law_406 : decode cL_law 406 = .ok (.aload_n 1, 1) := by decide +kernel
theorem dL_law_407 : decode cL_law 407 = .ok (.aload_n 0, 1) := by decide +kernel
theorem dL_law_408 : decode cL_law 408 = .ok (.iload_n 3, 1) := by decide +kernel
theorem dL_law_409 : decode cL_law 409 = .ok (.iconst 1, 1) := by decide +kernel
theorem dL_law_410 : decode cL_law 410 = .ok (.iadd, 1) := by decide +kernel
theorem dL_law_411 : decode cL_law 411 = .ok (.iaload, 1) := by decide +kernel
theorem dL_law_412 : decode cL_law 412 = .ok (.aload_n 0, 1) := by decide +kernel
theorem dL_law_413 : decode cL_law 413 = .ok (.iload_n 3, 1) := by decide +kernel
theorem dL_law_414 : decode cL_law 414 = .ok (.iconst 2, 1) := by decide +kernel
theorem dL_law_415 : decode cL_law 415 = .ok (.iadd, 1) := by decide +kernel
theorem dL_law_416 : decode cL_law 416 = .ok (.iaload, 1) := by decide +kernel
theorem dL_law_417 : decode cL_law 417 = .ok (.aload_n 0, 1) := by decide +kernel
theorem dL_law_418 : decode cL_law 418 = .ok (.iload_n 3, 1) := by decide +kernel
theorem dL_law_419 : decode cL_law 419 = .ok (.iconst 3, 1) := by decide +kernel
theorem dL_law_420 : decode cL_law 420 = .ok (.iadd, 1) := by decide +kernel
theorem dL_law_421 : decode cL_law 421 = .ok (.iaload, 1) := by decide +kernel
theorem dL_law_422 : decode cL_law 422 = .ok (.invokevirtual 42, 3) := by decide +kernel
theorem dL_law_425 : decode cL_law 425 = .ok (.aload_n 2, 1) := by decide +kernel
theorem dL_law_426 : decode cL_law 426 = .ok (.aload_n 0, 1) := by decide +kernel
theorem dL_law_427 : decode cL_law 427 = .ok (.iload_n 3, 1) := by decide +kernel
theorem dL_law_428 : decode cL_law 428 = .ok (.iconst 1, 1) := by decide +kernel
theorem dL_law_429 : decode cL_law 429 = .ok (.iadd, 1) := by decide +kernel
theorem dL_law_430 : decode cL_law 430 = .ok (.iaload, 1) := by decide +kernel
theorem dL_law_431 : decode cL_law 431 = .ok (.aload_n 0, 1) := by decide +kernel
theorem dL_law_432 : decode cL_law 432 = .ok (.iload_n 3, 1) := by decide +kernel
theorem dL_law_433 : decode cL_law 433 = .ok (.iconst 2, 1) := by decide +kernel
theorem dL_law_434 : decode cL_law 434 = .ok (.iadd, 1) := by decide +kernel
theorem dL_law_435 : decode cL_law 435 = .ok (.iaload, 1) := by decide +kernel
theorem dL_law_436 : decode cL_law 436 = .ok (.aload_n 0, 1) := by decide +kernel
theorem dL_law_437 : decode cL_law 437 = .ok (.iload_n 3, 1) := by decide +kernel
theorem dL_law_438 : decode cL_law 438 = .ok (.iconst 3, 1) := by decide +kernel
theorem dL_law_439 : decode cL_law 439 = .ok (.iadd, 1) := by decide +kernel
theorem dL_law_440 : decode cL_law 440 = .ok (.iaload, 1) := by decide +kernel
theorem dL_law_441 : decode cL_law 441 = .ok (.invokevirtual 45, 3) := by decide +kernel
theorem dL_law_444 : decode cL_law 444 = .ok (.if_icmp .eq 423, 3) := by decide +kernel
theorem dL_law_447 : decode cL_law 447 = .ok (.iconst 0, 1) := by decide +kernel
theorem dL_law_448 : decode cL_law 448 = .ok (.ireturn, 1) := by decide +kernel
theorem dL_law_449 : decode cL_law 449 = .ok (.aload_n 1, 1) := by decide +kernel
theorem dL_law_450 : decode cL_law 450 = .ok (.aload_n 0, 1) := by decide +kernel
theorem dL_law_451 : decode cL_law 451 = .ok (.iload_n 3, 1) := by decide +kernel
theorem dL_law_452 : decode cL_law 452 = .ok (.iconst 1, 1) := by decide +kernel
theorem dL_law_453 : decode cL_law 453 = .ok (.iadd, 1) := by decide +kernel
theorem dL_law_454 : decode cL_law 454 = .ok (.iaload, 1) := by decide +kernel
theorem dL_law_455 : decode cL_law 455 = .ok (.aload_n 0, 1) := by decide +kernel
theorem dL_law_456 : decode cL_law 456 = .ok (.iload_n 3, 1) := by decide +kernel
theorem dL_law_457 : decode cL_law 457 = .ok (.iconst 2, 1) := by decide +kernel
theorem dL_law_458 : decode cL_law 458 = .ok (.iadd, 1) := by decide +kernel
theorem dL_law_459 : decode cL_law 459 = .ok (.iaload, 1) := by decide +kernel
theorem dL_law_460 : decode cL_law 460 = .ok (.invokevirtual 46, 3) := by decide +kernel
theorem dL_law_463 : decode cL_law 463 = .ok (.aload_n 2, 1) := by decide +kernel
theorem dL_law_464 : decode cL_law 464 = .ok (.aload_n 0, 1) := by decide +kernel
theorem dL_law_465 : decode cL_law 465 = .ok (.iload_n 3, 1) := by decide +kernel
theorem dL_law_466 : decode cL_law 466 = .ok (.iconst 1, 1) := by decide +kernel
theorem dL_law_467 : decode cL_law 467 = .ok (.iadd, 1) := by decide +kernel
theorem dL_law_468 : decode cL_law 468 = .ok (.iaload, 1) := by decide +kernel
theorem dL_law_469 : decode cL_law 469 = .ok (.aload_n 0, 1) := by decide +kernel
theorem dL_law_470 : decode cL_law 470 = .ok (.iload_n 3, 1) := by decide +kernel
theorem dL_law_471 : decode cL_law 471 = .ok (.iconst 2, 1) := by decide +kernel
theorem dL_law_472 : decode cL_law 472 = .ok (.iadd, 1) := by decide +kernel
theorem dL_law_473 : decode cL_law 473 = .ok (.iaload, 1) := by decide +kernel
theorem dL_law_474 : decode cL_law 474 = .ok (.invokevirtual 49, 3) := by decide +kernel
theorem dL_law_477 : decode cL_law 477 = .ok (.if_icmp .eq 390, 3) := by decide +kernel
theorem dL_law_480 : decode cL_law 480 = .ok (.iconst 0, 1) := by decide +kernel
theorem dL_law_481 : decode cL_law 481 = .ok (.ireturn, 1) := by decide +kernel
theorem dL_law_482 : decode cL_law 482 = .ok (.aload_n 1, 1) := by decide +kernel
theorem dL_law_483 : decode cL_law 483 = .ok (.aload_n 0, 1) := by decide +kernel
theorem dL_law_484 : decode cL_law 484 = .ok (.iload_n 3, 1) := by decide +kernel
theorem dL_law_485 : decode cL_law 485 = .ok (.iconst 1, 1) := by decide +kernel
theorem dL_law_486 : decode cL_law 486 = .ok (.iadd, 1) := by decide +kernel
theorem dL_law_487 : decode cL_law 487 = .ok (.iaload, 1) := by decide +kernel
theorem dL_law_488 : decode cL_law 488 = .ok (.invokevirtual 50, 3) := by decide +kernel
theorem dL_law_491 : decode cL_law 491 = .ok (.aload_n 2, 1) := by decide +kernel
theorem dL_law_492 : decode cL_law 492 = .ok (.aload_n 0, 1) := by decide +kernel
theorem dL_law_493 : decode cL_law 493 = .ok (.iload_n 3, 1) := by decide +kernel
theorem dL_law_494 : decode cL_law 494 = .ok (.iconst 1, 1) := by decide +kernel
theorem dL_law_495 : decode cL_law 495 = .ok (.iadd, 1) := by decide +kernel
theorem dL_law_496 : decode cL_law 496 = .ok (.iaload, 1) := by decide +kernel
theorem dL_law_497 : decode cL_law 497 = .ok (.invokevirtual 53, 3) := by decide +kernel
theorem dL_law_500 : decode cL_law 500 = .ok (.if_icmp .eq 367, 3) := by decide +kernel
theorem dL_law_503 : decode cL_law 503 = .ok (.iconst 0, 1) := by decide +kernel
theorem dL_law_504 : decode cL_law 504 = .ok (.ireturn, 1) := by decide +kernel
theorem dL_law_505 : decode cL_law 505 = .ok (.aload_n 1, 1) := by decide +kernel
theorem dL_law_506 : decode cL_law 506 = .ok (.aload_n 0, 1) := by decide +kernel
theorem dL_law_507 : decode cL_law 507 = .ok (.iload_n 3, 1) := by decide +kernel
theorem dL_law_508 : decode cL_law 508 = .ok (.iconst 1, 1) := by decide +kernel
theorem dL_law_509 : decode cL_law 509 = .ok (.iadd, 1) := by decide +kernel
theorem dL_law_510 : decode cL_law 510 = .ok (.iaload, 1) := by decide +kernel
theorem dL_law_511 : decode cL_law 511 = .ok (.invokevirtual 54, 3) := by decide +kernel
theorem dL_law_514 : decode cL_law 514 = .ok (.aload_n 2, 1) := by decide +kernel
theorem dL_law_515 : decode cL_law 515 = .ok (.aload_n 0, 1) := by decide +kernel
theorem dL_law_516 : decode cL_law 516 = .ok (.iload_n 3, 1) := by decide +kernel
theorem dL_law_517 : decode cL_law 517 = .ok (.iconst 1, 1) := by decide +kernel
theorem dL_law_518 : decode cL_law 518 = .ok (.iadd, 1) := by decide +kernel
theorem dL_law_519 : decode cL_law 519 = .ok (.iaload, 1) := by decide +kernel
theorem dL_law_520 : decode cL_law 520 = .ok (.invokevirtual 57, 3) := by decide +kernel
theorem dL_law_523 : decode cL_law 523 = .ok (.if_icmp .eq 344, 3) := by decide +kernel
theorem dL_law_526 : decode cL_law 526 = .ok (.iconst 0, 1) := by decide +kernel
theorem dL_law_527 : decode cL_law 527 = .ok (.ireturn, 1) := by decide +kernel
theorem dL_law_528 : decode cL_law 528 = .ok (.aload_n 1, 1) := by decide +kernel
theorem dL_law_529 : decode cL_law 529 = .ok (.invokevirtual 58, 3) := by decide +kernel
theorem dL_law_532 : decode cL_law 532 = .ok (.aload_n 2, 1) := by decide +kernel
theorem dL_law_533 : decode cL_law 533 = .ok (.invokevirtual 62, 3) := by decide +kernel
theorem dL_law_536 : decode cL_law 536 = .ok (.if_icmp .eq 331, 3) := by decide +kernel
theorem dL_law_539 : decode cL_law 539 = .ok (.iconst 0, 1) := by decide +kernel
theorem dL_law_540 : decode cL_law 540 = .ok (.ireturn, 1) := by decide +kernel
theorem dL_law_541 : decode cL_law 541 = .ok (.aload_n 1, 1) := by decide +kernel
theorem dL_law_542 : decode cL_law 542 = .ok (.aload_n 0, 1) := by decide +kernel
theorem dL_law_543 : decode cL_law 543 = .ok (.iload_n 3, 1) := by decide +kernel
theorem dL_law_544 : decode cL_law 544 = .ok (.iconst 1, 1) := by decide +kernel
theorem dL_law_545 : decode cL_law 545 = .ok (.iadd, 1) := by decide +kernel
theorem dL_law_546 : decode cL_law 546 = .ok (.iaload, 1) := by decide +kernel
theorem dL_law_547 : decode cL_law 547 = .ok (.aload_n 0, 1) := by decide +kernel
theorem dL_law_548 : decode cL_law 548 = .ok (.iload_n 3, 1) := by decide +kernel
theorem dL_law_549 : decode cL_law 549 = .ok (.iconst 2, 1) := by decide +kernel
theorem dL_law_550 : decode cL_law 550 = .ok (.iadd, 1) := by decide +kernel
theorem dL_law_551 : decode cL_law 551 = .ok (.iaload, 1) := by decide +kernel
theorem dL_law_552 : decode cL_law 552 = .ok (.invokevirtual 63, 3) := by decide +kernel
theorem dL_law_555 : decode cL_law 555 = .ok (.aload_n 2, 1) := by decide +kernel
theorem dL_law_556 : decode cL_law 556 = .ok (.aload_n 0, 1) := by decide +kernel
theorem dL_law_557 : decode cL_law 557 = .ok (.iload_n 3, 1) := by decide +kernel
theorem dL_law_558 : decode cL_law 558 = .ok (.iconst 1, 1) := by decide +kernel
theorem dL_law_559 : decode cL_law 559 = .ok (.iadd, 1) := by decide +kernel
theorem dL_law_560 : decode cL_law 560 = .ok (.iaload, 1) := by decide +kernel
theorem dL_law_561 : decode cL_law 561 = .ok (.aload_n 0, 1) := by decide +kernel
theorem dL_law_562 : decode cL_law 562 = .ok (.iload_n 3, 1) := by decide +kernel
theorem dL_law_563 : decode cL_law 563 = .ok (.iconst 2, 1) := by decide +kernel
theorem dL_law_564 : decode cL_law 564 = .ok (.iadd, 1) := by decide +kernel
theorem dL_law_565 : decode cL_law 565 = .ok (.iaload, 1) := by decide +kernel
theorem dL_law_566 : decode cL_law 566 = .ok (.invokevirtual 66, 3) := by decide +kernel
theorem dL_law_569 : decode cL_law 569 = .ok (.if_icmp .eq 298, 3) := by decide +kernel
theorem dL_law_572 : decode cL_law 572 = .ok (.iconst 0, 1) := by decide +kernel
theorem dL_law_573 : decode cL_law 573 = .ok (.ireturn, 1) := by decide +kernel
theorem dL_law_574 : decode cL_law 574 = .ok (.aload_n 1, 1) := by decide +kernel
theorem dL_law_575 : decode cL_law 575 = .ok (.aload_n 0, 1) := by decide +kernel
theorem dL_law_576 : decode cL_law 576 = .ok (.iload_n 3, 1) := by decide +kernel
theorem dL_law_577 : decode cL_law 577 = .ok (.iconst 1, 1) := by decide +kernel
theorem dL_law_578 : decode cL_law 578 = .ok (.iadd, 1) := by decide +kernel
theorem dL_law_579 : decode cL_law 579 = .ok (.iaload, 1) := by decide +kernel
theorem dL_law_580 : decode cL_law 580 = .ok (.invokevirtual 67, 3) := by decide +kernel
theorem dL_law_583 : decode cL_law 583 = .ok (.aload_n 2, 1) := by decide +kernel
theorem dL_law_584 : decode cL_law 584 = .ok (.aload_n 0, 1) := by decide +kernel
theorem dL_law_585 : decode cL_law 585 = .ok (.iload_n 3, 1) := by decide +kernel
theorem dL_law_586 : decode cL_law 586 = .ok (.iconst 1, 1) := by decide +kernel
theorem dL_law_587 : decode cL_law 587 = .ok (.iadd, 1) := by decide +kernel
theorem dL_law_588 : decode cL_law 588 = .ok (.iaload, 1) := by decide +kernel
theorem dL_law_589 : decode cL_law 589 = .ok (.invokevirtual 70, 3) := by decide +kernel
theorem dL_law_592 : decode cL_law 592 = .ok (.if_icmp .eq 275, 3) := by decide +kernel
theorem dL_law_595 : decode cL_law 595 = .ok (.iconst 0, 1) := by decide +kernel
theorem dL_law_596 : decode cL_law 596 = .ok (.ireturn, 1) := by decide +kernel
theorem dL_law_597 : decode cL_law 597 = .ok (.aload_n 1, 1) := by decide +kernel
theorem dL_law_598 : decode cL_law 598 = .ok (.aload_n 0, 1) := by decide +kernel
theorem dL_law_599 : decode cL_law 599 = .ok (.iload_n 3, 1) := by decide +kernel
theorem dL_law_600 : decode cL_law 600 = .ok (.iconst 1, 1) := by decide +kernel
theorem dL_law_601 : decode cL_law 601 = .ok (.iadd, 1) := by decide +kernel
theorem dL_law_602 : decode cL_law 602 = .ok (.iaload, 1) := by decide +kernel
theorem dL_law_603 : decode cL_law 603 = .ok (.aload_n 0, 1) := by decide +kernel
theorem dL_law_604 : decode cL_law 604 = .ok (.iload_n 3, 1) := by decide +kernel
theorem dL_law_605 : decode cL_law 605 = .ok (.iconst 2, 1) := by decide +kernel
theorem dL_law_606 : decode cL_law 606 = .ok (.iadd, 1) := by decide +kernel
theorem dL_law_607 : decode cL_law 607 = .ok (.iaload, 1) := by decide +kernel
theorem dL_law_608 : decode cL_law 608 = .ok (.invokevirtual 71, 3) := by decide +kernel
theorem dL_law_611 : decode cL_law 611 = .ok (.aload_n 2, 1) := by decide +kernel
theorem dL_law_612 : decode cL_law 612 = .ok (.aload_n 0, 1) := by decide +kernel
theorem dL_law_613 : decode cL_law 613 = .ok (.iload_n 3, 1) := by decide +kernel
theorem dL_law_614 : decode cL_law 614 = .ok (.iconst 1, 1) := by decide +kernel
theorem dL_law_615 : decode cL_law 615 = .ok (.iadd, 1) := by decide +kernel
theorem dL_law_616 : decode cL_law 616 = .ok (.iaload, 1) := by decide +kernel
theorem dL_law_617 : decode cL_law 617 = .ok (.aload_n 0, 1) := by decide +kernel
theorem dL_law_618 : decode cL_law 618 = .ok (.iload_n 3, 1) := by decide +kernel
theorem dL_law_619 : decode cL_law 619 = .ok (.iconst 2, 1) := by decide +kernel
theorem dL_law_620 : decode cL_law 620 = .ok (.iadd, 1) := by decide +kernel
theorem dL_law_621 : decode cL_law 621 = .ok (.iaload, 1) := by decide +kernel
theorem dL_law_622 : decode cL_law 622 = .ok (.invokevirtual 74, 3) := by decide +kernel
theorem dL_law_625 : decode cL_law 625 = .ok (.if_icmp .eq 242, 3) := by decide +kernel
theorem dL_law_628 : decode cL_law 628 = .ok (.iconst 0, 1) := by decide +kernel
theorem dL_law_629 : decode cL_law 629 = .ok (.ireturn, 1) := by decide +kernel
theorem dL_law_630 : decode cL_law 630 = .ok (.aload_n 1, 1) := by decide +kernel
theorem dL_law_631 : decode cL_law 631 = .ok (.aload_n 0, 1) := by decide +kernel
theorem dL_law_632 : decode cL_law 632 = .ok (.iload_n 3, 1) := by decide +kernel
theorem dL_law_633 : decode cL_law 633 = .ok (.iconst 1, 1) := by decide +kernel
theorem dL_law_634 : decode cL_law 634 = .ok (.iadd, 1) := by decide +kernel
theorem dL_law_635 : decode cL_law 635 = .ok (.iaload, 1) := by decide +kernel
theorem dL_law_636 : decode cL_law 636 = .ok (.invokevirtual 75, 3) := by decide +kernel
theorem dL_law_639 : decode cL_law 639 = .ok (.aload_n 2, 1) := by decide +kernel
theorem dL_law_640 : decode cL_law 640 = .ok (.aload_n 0, 1) := by decide +kernel
theorem dL_law_641 : decode cL_law 641 = .ok (.iload_n 3, 1) := by decide +kernel
theorem dL_law_642 : decode cL_law 642 = .ok (.iconst 1, 1) := by decide +kernel
theorem dL_law_643 : decode cL_law 643 = .ok (.iadd, 1) := by decide +kernel
theorem dL_law_644 : decode cL_law 644 = .ok (.iaload, 1) := by decide +kernel
theorem dL_law_645 : decode cL_law 645 = .ok (.invokevirtual 78, 3) := by decide +kernel
theorem dL_law_648 : decode cL_law 648 = .ok (.if_icmp .eq 219, 3) := by decide +kernel
theorem dL_law_651 : decode cL_law 651 = .ok (.iconst 0, 1) := by decide +kernel
theorem dL_law_652 : decode cL_law 652 = .ok (.ireturn, 1) := by decide +kernel
theorem dL_law_653 : decode cL_law 653 = .ok (.aload_n 1, 1) := by decide +kernel
theorem dL_law_654 : decode cL_law 654 = .ok (.aload_n 0, 1) := by decide +kernel
theorem dL_law_655 : decode cL_law 655 = .ok (.iload_n 3, 1) := by decide +kernel
theorem dL_law_656 : decode cL_law 656 = .ok (.iconst 1, 1) := by decide +kernel
theorem dL_law_657 : decode cL_law 657 = .ok (.iadd, 1) := by decide +kernel
theorem dL_law_658 : decode cL_law 658 = .ok (.iaload, 1) := by decide +kernel
theorem dL_law_659 : decode cL_law 659 = .ok (.invokevirtual 79, 3) := by decide +kernel
theorem dL_law_662 : decode cL_law 662 = .ok (.aload_n 2, 1) := by decide +kernel
theorem dL_law_663 : decode cL_law 663 = .ok (.aload_n 0, 1) := by decide +kernel
theorem dL_law_664 : decode cL_law 664 = .ok (.iload_n 3, 1) := by decide +kernel
theorem dL_law_665 : decode cL_law 665 = .ok (.iconst 1, 1) := by decide +kernel
theorem dL_law_666 : decode cL_law 666 = .ok (.iadd, 1) := by decide +kernel
theorem dL_law_667 : decode cL_law 667 = .ok (.iaload, 1) := by decide +kernel
theorem dL_law_668 : decode cL_law 668 = .ok (.invokevirtual 82, 3) := by decide +kernel
theorem dL_law_671 : decode cL_law 671 = .ok (.if_icmp .eq 196, 3) := by decide +kernel
theorem dL_law_674 : decode cL_law 674 = .ok (.iconst 0, 1) := by decide +kernel
theorem dL_law_675 : decode cL_law 675 = .ok (.ireturn, 1) := by decide +kernel
theorem dL_law_676 : decode cL_law 676 = .ok (.aload_n 1, 1) := by decide +kernel
theorem dL_law_677 : decode cL_law 677 = .ok (.aload_n 0, 1) := by decide +kernel
theorem dL_law_678 : decode cL_law 678 = .ok (.iload_n 3, 1) := by decide +kernel
theorem dL_law_679 : decode cL_law 679 = .ok (.iconst 1, 1) := by decide +kernel
theorem dL_law_680 : decode cL_law 680 = .ok (.iadd, 1) := by decide +kernel
theorem dL_law_681 : decode cL_law 681 = .ok (.iaload, 1) := by decide +kernel
theorem dL_law_682 : decode cL_law 682 = .ok (.aload_n 0, 1) := by decide +kernel
theorem dL_law_683 : decode cL_law 683 = .ok (.iload_n 3, 1) := by decide +kernel
theorem dL_law_684 : decode cL_law 684 = .ok (.iconst 2, 1) := by decide +kernel
theorem dL_law_685 : decode cL_law 685 = .ok (.iadd, 1) := by decide +kernel
theorem dL_law_686 : decode cL_law 686 = .ok (.iaload, 1) := by decide +kernel
theorem dL_law_687 : decode cL_law 687 = .ok (.invokevirtual 83, 3) := by decide +kernel
theorem dL_law_690 : decode cL_law 690 = .ok (.aload_n 2, 1) := by decide +kernel
theorem dL_law_691 : decode cL_law 691 = .ok (.aload_n 0, 1) := by decide +kernel
theorem dL_law_692 : decode cL_law 692 = .ok (.iload_n 3, 1) := by decide +kernel
theorem dL_law_693 : decode cL_law 693 = .ok (.iconst 1, 1) := by decide +kernel
theorem dL_law_694 : decode cL_law 694 = .ok (.iadd, 1) := by decide +kernel
theorem dL_law_695 : decode cL_law 695 = .ok (.iaload, 1) := by decide +kernel
theorem dL_law_696 : decode cL_law 696 = .ok (.aload_n 0, 1) := by decide +kernel
theorem dL_law_697 : decode cL_law 697 = .ok (.iload_n 3, 1) := by decide +kernel
theorem dL_law_698 : decode cL_law 698 = .ok (.iconst 2, 1) := by decide +kernel
theorem dL_law_699 : decode cL_law 699 = .ok (.iadd, 1) := by decide +kernel
theorem dL_law_700 : decode cL_law 700 = .ok (.iaload, 1) := by decide +kernel
theorem dL_law_701 : decode cL_law 701 = .ok (.invokevirtual 86, 3) := by decide +kernel
theorem dL_law_704 : decode cL_law 704 = .ok (.if_icmp .eq 163, 3) := by decide +kernel
theorem dL_law_707 : decode cL_law 707 = .ok (.iconst 0, 1) := by decide +kernel
theorem dL_law_708 : decode cL_law 708 = .ok (.ireturn, 1) := by decide +kernel
theorem dL_law_709 : decode cL_law 709 = .ok (.aload_n 1, 1) := by decide +kernel
theorem dL_law_710 : decode cL_law 710 = .ok (.aload_n 0, 1) := by decide +kernel
theorem dL_law_711 : decode cL_law 711 = .ok (.iload_n 3, 1) := by decide +kernel
theorem dL_law_712 : decode cL_law 712 = .ok (.iconst 1, 1) := by decide +kernel
theorem dL_law_713 : decode cL_law 713 = .ok (.iadd, 1) := by decide +kernel
theorem dL_law_714 : decode cL_law 714 = .ok (.iaload, 1) := by decide +kernel
theorem dL_law_715 : decode cL_law 715 = .ok (.aload_n 0, 1) := by decide +kernel
theorem dL_law_716 : decode cL_law 716 = .ok (.iload_n 3, 1) := by decide +kernel
theorem dL_law_717 : decode cL_law 717 = .ok (.iconst 2, 1) := by decide +kernel
theorem dL_law_718 : decode cL_law 718 = .ok (.iadd, 1) := by decide +kernel
theorem dL_law_719 : decode cL_law 719 = .ok (.iaload, 1) := by decide +kernel
theorem dL_law_720 : decode cL_law 720 = .ok (.invokevirtual 87, 3) := by decide +kernel
theorem dL_law_723 : decode cL_law 723 = .ok (.aload_n 2, 1) := by decide +kernel
theorem dL_law_724 : decode cL_law 724 = .ok (.aload_n 0, 1) := by decide +kernel
theorem dL_law_725 : decode cL_law 725 = .ok (.iload_n 3, 1) := by decide +kernel
theorem dL_law_726 : decode cL_law 726 = .ok (.iconst 1, 1) := by decide +kernel
theorem dL_law_727 : decode cL_law 727 = .ok (.iadd, 1) := by decide +kernel
theorem dL_law_728 : decode cL_law 728 = .ok (.iaload, 1) := by decide +kernel
theorem dL_law_729 : decode cL_law 729 = .ok (.aload_n 0, 1) := by decide +kernel
theorem dL_law_730 : decode cL_law 730 = .ok (.iload_n 3, 1) := by decide +kernel
theorem dL_law_731 : decode cL_law 731 = .ok (.iconst 2, 1) := by decide +kernel
theorem dL_law_732 : decode cL_law 732 = .ok (.iadd, 1) := by decide +kernel
theorem dL_law_733 : decode cL_law 733 = .ok (.iaload, 1) := by decide +kernel
theorem dL_law_734 : decode cL_law 734 = .ok (.invokevirtual 90, 3) := by decide +kernel
theorem dL_law_737 : decode cL_law 737 = .ok (.if_icmp .eq 130, 3) := by decide +kernel
theorem dL_law_740 : decode cL_law 740 = .ok (.iconst 0, 1) := by decide +kernel
theorem dL_law_741 : decode cL_law 741 = .ok (.ireturn, 1) := by decide +kernel
theorem dL_law_742 : decode cL_law 742 = .ok (.aload_n 1, 1) := by decide +kernel
theorem dL_law_743 : decode cL_law 743 = .ok (.aload_n 0, 1) := by decide +kernel
theorem dL_law_744 : decode cL_law 744 = .ok (.iload_n 3, 1) := by decide +kernel
theorem dL_law_745 : decode cL_law 745 = .ok (.iconst 1, 1) := by decide +kernel
theorem dL_law_746 : decode cL_law 746 = .ok (.iadd, 1) := by decide +kernel
theorem dL_law_747 : decode cL_law 747 = .ok (.iaload, 1) := by decide +kernel
theorem dL_law_748 : decode cL_law 748 = .ok (.aload_n 0, 1) := by decide +kernel
theorem dL_law_749 : decode cL_law 749 = .ok (.iload_n 3, 1) := by decide +kernel
theorem dL_law_750 : decode cL_law 750 = .ok (.iconst 2, 1) := by decide +kernel
theorem dL_law_751 : decode cL_law 751 = .ok (.iadd, 1) := by decide +kernel
theorem dL_law_752 : decode cL_law 752 = .ok (.iaload, 1) := by decide +kernel
theorem dL_law_753 : decode cL_law 753 = .ok (.aload_n 0, 1) := by decide +kernel
theorem dL_law_754 : decode cL_law 754 = .ok (.iload_n 3, 1) := by decide +kernel
theorem dL_law_755 : decode cL_law 755 = .ok (.iconst 3, 1) := by decide +kernel
theorem dL_law_756 : decode cL_law 756 = .ok (.iadd, 1) := by decide +kernel
theorem dL_law_757 : decode cL_law 757 = .ok (.iaload, 1) := by decide +kernel
theorem dL_law_758 : decode cL_law 758 = .ok (.invokevirtual 91, 3) := by decide +kernel
theorem dL_law_761 : decode cL_law 761 = .ok (.aload_n 2, 1) := by decide +kernel
theorem dL_law_762 : decode cL_law 762 = .ok (.aload_n 0, 1) := by decide +kernel
theorem dL_law_763 : decode cL_law 763 = .ok (.iload_n 3, 1) := by decide +kernel
theorem dL_law_764 : decode cL_law 764 = .ok (.iconst 1, 1) := by decide +kernel
theorem dL_law_765 : decode cL_law 765 = .ok (.iadd, 1) := by decide +kernel
theorem dL_law_766 : decode cL_law 766 = .ok (.iaload, 1) := by decide +kernel
theorem dL_law_767 : decode cL_law 767 = .ok (.aload_n 0, 1) := by decide +kernel
theorem dL_law_768 : decode cL_law 768 = .ok (.iload_n 3, 1) := by decide +kernel
theorem dL_law_769 : decode cL_law 769 = .ok (.iconst 2, 1) := by decide +kernel
theorem dL_law_770 : decode cL_law 770 = .ok (.iadd, 1) := by decide +kernel
theorem dL_law_771 : decode cL_law 771 = .ok (.iaload, 1) := by decide +kernel
theorem dL_law_772 : decode cL_law 772 = .ok (.aload_n 0, 1) := by decide +kernel
theorem dL_law_773 : decode cL_law 773 = .ok (.iload_n 3, 1) := by decide +kernel
theorem dL_law_774 : decode cL_law 774 = .ok (.iconst 3, 1) := by decide +kernel
theorem dL_law_775 : decode cL_law 775 = .ok (.iadd, 1) := by decide +kernel
theorem dL_law_776 : decode cL_law 776 = .ok (.iaload, 1) := by decide +kernel
theorem dL_law_777 : decode cL_law 777 = .ok (.invokevirtual 94, 3) := by decide +kernel
theorem dL_law_780 : decode cL_law 780 = .ok (.if_icmp .eq 87, 3) := by decide +kernel
theorem dL_law_783 : decode cL_law 783 = .ok (.iconst 0, 1) := by decide +kernel
theorem dL_law_784 : decode cL_law 784 = .ok (.ireturn, 1) := by decide +kernel
theorem dL_law_785 : decode cL_law 785 = .ok (.aload_n 1, 1) := by decide +kernel
theorem dL_law_786 : decode cL_law 786 = .ok (.aload_n 0, 1) := by decide +kernel
theorem dL_law_787 : decode cL_law 787 = .ok (.iload_n 3, 1) := by decide +kernel
theorem dL_law_788 : decode cL_law 788 = .ok (.iconst 1, 1) := by decide +kernel
theorem dL_law_789 : decode cL_law 789 = .ok (.iadd, 1) := by decide +kernel
theorem dL_law_790 : decode cL_law 790 = .ok (.iaload, 1) := by decide +kernel
theorem dL_law_791 : decode cL_law 791 = .ok (.aload_n 0, 1) := by decide +kernel
theorem dL_law_792 : decode cL_law 792 = .ok (.iload_n 3, 1) := by decide +kernel
theorem dL_law_793 : decode cL_law 793 = .ok (.iconst 2, 1) := by decide +kernel
theorem dL_law_794 : decode cL_law 794 = .ok (.iadd, 1) := by decide +kernel
theorem dL_law_795 : decode cL_law 795 = .ok (.iaload, 1) := by decide +kernel
theorem dL_law_796 : decode cL_law 796 = .ok (.invokevirtual 95, 3) := by decide +kernel
theorem dL_law_799 : decode cL_law 799 = .ok (.aload_n 2, 1) := by decide +kernel
theorem dL_law_800 : decode cL_law 800 = .ok (.aload_n 0, 1) := by decide +kernel
theorem dL_law_801 : decode cL_law 801 = .ok (.iload_n 3, 1) := by decide +kernel
theorem dL_law_802 : decode cL_law 802 = .ok (.iconst 1, 1) := by decide +kernel
theorem dL_law_803 : decode cL_law 803 = .ok (.iadd, 1) := by decide +kernel
theorem dL_law_804 : decode cL_law 804 = .ok (.iaload, 1) := by decide +kernel
theorem dL_law_805 : decode cL_law 805 = .ok (.aload_n 0, 1) := by decide +kernel
theorem dL_law_806 : decode cL_law 806 = .ok (.iload_n 3, 1) := by decide +kernel
theorem dL_law_807 : decode cL_law 807 = .ok (.iconst 2, 1) := by decide +kernel
theorem dL_law_808 : decode cL_law 808 = .ok (.iadd, 1) := by decide +kernel
theorem dL_law_809 : decode cL_law 809 = .ok (.iaload, 1) := by decide +kernel
theorem dL_law_810 : decode cL_law 810 = .ok (.invokevirtual 98, 3) := by decide +kernel
theorem dL_law_813 : decode cL_law 813 = .ok (.if_icmp .eq 54, 3) := by decide +kernel
theorem dL_law_816 : decode cL_law 816 = .ok (.iconst 0, 1) := by decide +kernel
theorem dL_law_817 : decode cL_law 817 = .ok (.ireturn, 1) := by decide +kernel
theorem dL_law_818 : decode cL_law 818 = .ok (.aload_n 1, 1) := by decide +kernel
theorem dL_law_819 : decode cL_law 819 = .ok (.aload_n 0, 1) := by decide +kernel
theorem dL_law_820 : decode cL_law 820 = .ok (.iload_n 3, 1) := by decide +kernel
theorem dL_law_821 : decode cL_law 821 = .ok (.iconst 1, 1) := by decide +kernel
theorem dL_law_822 : decode cL_law 822 = .ok (.iadd, 1) := by decide +kernel
theorem dL_law_823 : decode cL_law 823 = .ok (.iaload, 1) := by decide +kernel
theorem dL_law_824 : decode cL_law 824 = .ok (.invokevirtual 99, 3) := by decide +kernel
theorem dL_law_827 : decode cL_law 827 = .ok (.aload_n 2, 1) := by decide +kernel
theorem dL_law_828 : decode cL_law 828 = .ok (.aload_n 0, 1) := by decide +kernel
theorem dL_law_829 : decode cL_law 829 = .ok (.iload_n 3, 1) := by decide +kernel
theorem dL_law_830 : decode cL_law 830 = .ok (.iconst 1, 1) := by decide +kernel
theorem dL_law_831 : decode cL_law 831 = .ok (.iadd, 1) := by decide +kernel
theorem dL_law_832 : decode cL_law 832 = .ok (.iaload, 1) := by decide +kernel
theorem dL_law_833 : decode cL_law 833 = .ok (.invokevirtual 102, 3) := by decide +kernel
theorem dL_law_836 : decode cL_law 836 = .ok (.if_icmp .eq 31, 3) := by decide +kernel
theorem dL_law_839 : decode cL_law 839 = .ok (.iconst 0, 1) := by decide +kernel
theorem dL_law_840 : decode cL_law 840 = .ok (.ireturn, 1) := by decide +kernel
theorem dL_law_841 : decode cL_law 841 = .ok (.aload_n 1, 1) := by decide +kernel
theorem dL_law_842 : decode cL_law 842 = .ok (.invokevirtual 103, 3) := by decide +kernel
theorem dL_law_845 : decode cL_law 845 = .ok (.aload_n 2, 1) := by decide +kernel
theorem dL_law_846 : decode cL_law 846 = .ok (.invokevirtual 106, 3) := by decide +kernel
theorem dL_law_849 : decode cL_law 849 = .ok (.if_icmp .eq 18, 3) := by decide +kernel
theorem dL_law_852 : decode cL_law 852 = .ok (.iconst 0, 1) := by decide +kernel
theorem dL_law_853 : decode cL_law 853 = .ok (.ireturn, 1) := by decide +kernel
theorem dL_law_854 : decode cL_law 854 = .ok (.aload_n 1, 1) := by decide +kernel
theorem dL_law_855 : decode cL_law 855 = .ok (.invokevirtual 107, 3) := by decide +kernel
theorem dL_law_858 : decode cL_law 858 = .ok (.aload_n 2, 1) := by decide +kernel
theorem dL_law_859 : decode cL_law 859 = .ok (.invokevirtual 110, 3) := by decide +kernel
theorem dL_law_862 : decode cL_law 862 = .ok (.if_icmp .eq 5, 3) := by decide +kernel
theorem dL_law_865 : decode cL_law 865 = .ok (.iconst 0, 1) := by decide +kernel
theorem dL_law_866 : decode cL_law 866 = .ok (.ireturn, 1) := by decide +kernel
theorem dL_law_867 : decode cL_law 867 = .ok (.iinc 3 7, 3) := by decide +kernel
theorem dL_law_870 : decode cL_law 870 = .ok (.goto (-852), 3) := by decide +kernel
theorem dL_law_873 : decode cL_law 873 = .ok (.iconst 1, 1) := by decide +kernel
theorem dL_law_874 : decode cL_law 874 = .ok (.ireturn, 1) := by decide +kernel
