theorem dX0_init_0 : decode cX0_init 0 = .ok (.aload_n 0, 1) := by decide +kernel
theorem dX0_init_1 : decode cX0_init 1 = .ok (.invokespecial 3, 3) := by decide +kernel
theorem dX0_init_4 : decode cX0_init 4 = .ok (.aload_n 0, 1) := by decide +kernel
theorem dX0_init_5 : decode cX0_init 5 = .ok (.bipush 20, 2) := by decide +kernel
theorem dX0_init_7 : decode cX0_init 7 = .ok (.newarray .int, 2) := by decide +kernel
theorem dX0_init_9 : decode cX0_init 9 = .ok (.putfield 9, 3) := by decide +kernel
theorem dX0_init_12 : decode cX0_init 12 = .ok (.aload_n 0, 1) := by decide +kernel
theorem dX0_init_13 : decode cX0_init 13 = .ok (.bipush 20, 2) := by decide +kernel
theorem dX0_init_15 : decode cX0_init 15 = .ok (.newarray .int, 2) := by decide +kernel
theorem dX0_init_17 : decode cX0_init 17 = .ok (.putfield 15, 3) := by decide +kernel
theorem dX0_init_20 : decode cX0_init 20 = .ok (.aload_n 0, 1) := by decide +kernel
theorem dX0_init_21 : decode cX0_init 21 = .ok (.bipush 20, 2) := by decide +kernel
theorem dX0_init_23 : decode cX0_init 23 = .ok (.newarray .int, 2) := by decide +kernel
theorem dX0_init_25 : decode cX0_init 25 = .ok (.putfield 18, 3) := by decide +kernel
theorem dX0_init_28 : decode cX0_init 28 = .ok (.aload_n 0, 1) := by decide +kernel
theorem dX0_init_29 : decode cX0_init 29 = .ok (.bipush 20, 2) := by decide +kernel
theorem dX0_init_31 : decode cX0_init 31 = .ok (.newarray .int, 2) := by decide +kernel
theorem dX0_init_33 : decode cX0_init 33 = .ok (.putfield 21, 3) := by decide +kernel
theorem dX0_init_36 : decode cX0_init 36 = .ok (.aload_n 0, 1) := by decide +kernel
theorem dX0_init_37 : decode cX0_init 37 = .ok (.bipush 20, 2) := by decide +kernel
theorem dX0_init_39 : decode cX0_init 39 = .ok (.newarray .int, 2) := by decide +kernel
theorem dX0_init_41 : decode cX0_init 41 = .ok (.putfield 24, 3) := by decide +kernel
theorem dX0_init_44 : decode cX0_init 44 = .ok (.aload_n 0, 1) := by decide +kernel
theorem dX0_init_45 : decode cX0_init 45 = .ok (.bipush 20, 2) := by decide +kernel
theorem dX0_init_47 : decode cX0_init 47 = .ok (.newarray .int, 2) := by decide +kernel
theorem dX0_init_49 : decode cX0_init 49 = .ok (.putfield 27, 3) := by decide +kernel
theorem dX0_init_52 : decode cX0_init 52 = .ok (.return_, 1) := by decide +kernel
theorem dX0_add_0 : decode cX0_add 0 = .ok (.aload_n 0, 1) := by decide +kernel
theorem dX0_add_1 : decode cX0_add 1 = .ok (.getfield 30, 3) := by decide +kernel
theorem dX0_add_4 : decode cX0_add 4 = .ok (.istore_n 3, 1) := by decide +kernel
theorem dX0_add_5 : decode cX0_add 5 = .ok (.aload_n 0, 1) := by decide +kernel
theorem dX0_add_6 : decode cX0_add 6 = .ok (.iload_n 3, 1) := by decide +kernel
theorem dX0_add_7 : decode cX0_add 7 = .ok (.iconst 1, 1) := by decide +kernel
theorem dX0_add_8 : decode cX0_add 8 = .ok (.iadd, 1) := by decide +kernel
theorem dX0_add_9 : decode cX0_add 9 = .ok (.putfield 30, 3) := by decide +kernel
theorem dX0_add_12 : decode cX0_add 12 = .ok (.aload_n 0, 1) := by decide +kernel
theorem dX0_add_13 : decode cX0_add 13 = .ok (.getfield 9, 3) := by decide +kernel
theorem dX0_add_16 : decode cX0_add 16 = .ok (.iload_n 3, 1) := by decide +kernel
theorem dX0_add_17 : decode cX0_add 17 = .ok (.iconst 0, 1) := by decide +kernel
theorem dX0_add_18 : decode cX0_add 18 = .ok (.iastore, 1) := by decide +kernel
theorem dX0_add_19 : decode cX0_add 19 = .ok (.aload_n 0, 1) := by decide +kernel
theorem dX0_add_20 : decode cX0_add 20 = .ok (.getfield 15, 3) := by decide +kernel
theorem dX0_add_23 : decode cX0_add 23 = .ok (.iload_n 3, 1) := by decide +kernel
theorem dX0_add_24 : decode cX0_add 24 = .ok (.iconst 0, 1) := by decide +kernel
theorem dX0_add_25 : decode cX0_add 25 = .ok (.iastore, 1) := by decide +kernel
theorem dX0_add_26 : decode cX0_add 26 = .ok (.aload_n 0, 1) := by decide +kernel
theorem dX0_add_27 : decode cX0_add 27 = .ok (.getfield 18, 3) := by decide +kernel
theorem dX0_add_30 : decode cX0_add 30 = .ok (.iload_n 3, 1) := by decide +kernel
theorem dX0_add_31 : decode cX0_add 31 = .ok (.iload_n 2, 1) := by decide +kernel
theorem dX0_add_32 : decode cX0_add 32 = .ok (.iastore, 1) := by decide +kernel
theorem dX0_add_33 : decode cX0_add 33 = .ok (.aload_n 0, 1) := by decide +kernel
theorem dX0_add_34 : decode cX0_add 34 = .ok (.getfield 21, 3) := by decide +kernel
theorem dX0_add_37 : decode cX0_add 37 = .ok (.iload_n 3, 1) := by decide +kernel
theorem dX0_add_38 : decode cX0_add 38 = .ok (.iload_n 1, 1) := by decide +kernel
theorem dX0_add_39 : decode cX0_add 39 = .ok (.iastore, 1) := by decide +kernel
theorem dX0_add_40 : decode cX0_add 40 = .ok (.aload_n 0, 1) := by decide +kernel
theorem dX0_add_41 : decode cX0_add 41 = .ok (.getfield 24, 3) := by decide +kernel
theorem dX0_add_44 : decode cX0_add 44 = .ok (.iload_n 3, 1) := by decide +kernel
theorem dX0_add_45 : decode cX0_add 45 = .ok (.bipush (-4), 2) := by decide +kernel
theorem dX0_add_47 : decode cX0_add 47 = .ok (.iastore, 1) := by decide +kernel
theorem dX0_add_48 : decode cX0_add 48 = .ok (.aload_n 0, 1) := by decide +kernel
theorem dX0_add_49 : decode cX0_add 49 = .ok (.getfield 27, 3) := by decide +kernel
theorem dX0_add_52 : decode cX0_add 52 = .ok (.iload_n 3, 1) := by decide +kernel
theorem dX0_add_53 : decode cX0_add 53 = .ok (.bipush (-4), 2) := by decide +kernel
theorem dX0_add_55 : decode cX0_add 55 = .ok (.iastore, 1) := by decide +kernel
theorem dX0_add_56 : decode cX0_add 56 = .ok (.iload_n 3, 1) := by decide +kernel
theorem dX0_add_57 : decode cX0_add 57 = .ok (.ireturn, 1) := by decide +kernel
theorem dX0_fact_0 : decode cX0_fact 0 = .ok (.iload_n 2, 1) := by decide +kernel
theorem dX0_fact_1 : decode cX0_fact 1 = .ok (.tableswitch 70 0 4 #[35, 42, 49, 56, 63], 35) := by decide +kernel
theorem dX0_fact_36 : decode cX0_fact 36 = .ok (.aload_n 0, 1) := by decide +kernel
theorem dX0_fact_37 : decode cX0_fact 37 = .ok (.getfield 9, 3) := by decide +kernel
theorem dX0_fact_40 : decode cX0_fact 40 = .ok (.iload_n 1, 1) := by decide +kernel
theorem dX0_fact_41 : decode cX0_fact 41 = .ok (.iaload, 1) := by decide +kernel
theorem dX0_fact_42 : decode cX0_fact 42 = .ok (.ireturn, 1) := by decide +kernel
theorem dX0_fact_43 : decode cX0_fact 43 = .ok (.aload_n 0, 1) := by decide +kernel
theorem dX0_fact_44 : decode cX0_fact 44 = .ok (.getfield 15, 3) := by decide +kernel
theorem dX0_fact_47 : decode cX0_fact 47 = .ok (.iload_n 1, 1) := by decide +kernel
theorem dX0_fact_48 : decode cX0_fact 48 = .ok (.iaload, 1) := by decide +kernel
theorem dX0_fact_49 : decode cX0_fact 49 = .ok (.ireturn, 1) := by decide +kernel
theorem dX0_fact_50 : decode cX0_fact 50 = .ok (.aload_n 0, 1) := by decide +kernel
theorem dX0_fact_51 : decode cX0_fact 51 = .ok (.getfield 18, 3) := by decide +kernel
theorem dX0_fact_54 : decode cX0_fact 54 = .ok (.iload_n 1, 1) := by decide +kernel
theorem dX0_fact_55 : decode cX0_fact 55 = .ok (.iaload, 1) := by decide +kernel
theorem dX0_fact_56 : decode cX0_fact 56 = .ok (.ireturn, 1) := by decide +kernel
theorem dX0_fact_57 : decode cX0_fact 57 = .ok (.aload_n 0, 1) := by decide +kernel
theorem dX0_fact_58 : decode cX0_fact 58 = .ok (.getfield 21, 3) := by decide +kernel
theorem dX0_fact_61 : decode cX0_fact 61 = .ok (.iload_n 1, 1) := by decide +kernel
theorem dX0_fact_62 : decode cX0_fact 62 = .ok (.iaload, 1) := by decide +kernel
theorem dX0_fact_63 : decode cX0_fact 63 = .ok (.ireturn, 1) := by decide +kernel
theorem dX0_fact_64 : decode cX0_fact 64 = .ok (.aload_n 0, 1) := by decide +kernel
theorem dX0_fact_65 : decode cX0_fact 65 = .ok (.getfield 24, 3) := by decide +kernel
theorem dX0_fact_68 : decode cX0_fact 68 = .ok (.iload_n 1, 1) := by decide +kernel
theorem dX0_fact_69 : decode cX0_fact 69 = .ok (.iaload, 1) := by decide +kernel
theorem dX0_fact_70 : decode cX0_fact 70 = .ok (.ireturn, 1) := by decide +kernel
theorem dX0_fact_71 : decode cX0_fact 71 = .ok (.iconst (-1), 1) := by decide +kernel
theorem dX0_fact_72 : decode cX0_fact 72 = .ok (.ireturn, 1) := by decide +kernel
theorem dX0_countOf_0 : decode cX0_countOf 0 = .ok (.iconst 0, 1) := by decide +kernel
theorem dX0_countOf_1 : decode cX0_countOf 1 = .ok (.istore_n 2, 1) := by decide +kernel
theorem dX0_countOf_2 : decode cX0_countOf 2 = .ok (.iconst 0, 1) := by decide +kernel
theorem dX0_countOf_3 : decode cX0_countOf 3 = .ok (.istore_n 3, 1) := by decide +kernel
theorem dX0_countOf_4 : decode cX0_countOf 4 = .ok (.iload_n 3, 1) := by decide +kernel
theorem dX0_countOf_5 : decode cX0_countOf 5 = .ok (.aload_n 0, 1) := by decide +kernel
theorem dX0_countOf_6 : decode cX0_countOf 6 = .ok (.getfield 30, 3) := by decide +kernel
theorem dX0_countOf_9 : decode cX0_countOf 9 = .ok (.if_icmp .ge 22, 3) := by decide +kernel
theorem dX0_countOf_12 : decode cX0_countOf 12 = .ok (.aload_n 0, 1) := by decide +kernel
theorem dX0_countOf_13 : decode cX0_countOf 13 = .ok (.getfield 9, 3) := by decide +kernel
theorem dX0_countOf_16 : decode cX0_countOf 16 = .ok (.iload_n 3, 1) := by decide +kernel
theorem dX0_countOf_17 : decode cX0_countOf 17 = .ok (.iaload, 1) := by decide +kernel
theorem dX0_countOf_18 : decode cX0_countOf 18 = .ok (.iload_n 1, 1) := by decide +kernel
theorem dX0_countOf_19 : decode cX0_countOf 19 = .ok (.if_icmp .ne 6, 3) := by decide +kernel
theorem dX0_countOf_22 : decode cX0_countOf 22 = .ok (.iinc 2 1, 3) := by decide +kernel
theorem dX0_countOf_25 : decode cX0_countOf 25 = .ok (.iinc 3 1, 3) := by decide +kernel
theorem dX0_countOf_28 : decode cX0_countOf 28 = .ok (.goto (-24), 3) := by decide +kernel
theorem dX0_countOf_31 : decode cX0_countOf 31 = .ok (.iload_n 2, 1) := by decide +kernel
theorem dX0_countOf_32 : decode cX0_countOf 32 = .ok (.ireturn, 1) := by decide +kernel
theorem dX0_countAt_0 : decode cX0_countAt 0 = .ok (.iconst 0, 1) := by decide +kernel
theorem dX0_countAt_1 : decode cX0_countAt 1 = .ok (.istore_n 2, 1) := by decide +kernel
theorem dX0_countAt_2 : decode cX0_countAt 2 = .ok (.iconst 0, 1) := by decide +kernel
theorem dX0_countAt_3 : decode cX0_countAt 3 = .ok (.istore_n 3, 1) := by decide +kernel
theorem dX0_countAt_4 : decode cX0_countAt 4 = .ok (.iload_n 3, 1) := by decide +kernel
theorem dX0_countAt_5 : decode cX0_countAt 5 = .ok (.aload_n 0, 1) := by decide +kernel
theorem dX0_countAt_6 : decode cX0_countAt 6 = .ok (.getfield 30, 3) := by decide +kernel
theorem dX0_countAt_9 : decode cX0_countAt 9 = .ok (.if_icmp .ge 42, 3) := by decide +kernel
theorem dX0_countAt_12 : decode cX0_countAt 12 = .ok (.aload_n 0, 1) := by decide +kernel
theorem dX0_countAt_13 : decode cX0_countAt 13 = .ok (.getfield 24, 3) := by decide +kernel
theorem dX0_countAt_16 : decode cX0_countAt 16 = .ok (.iload_n 3, 1) := by decide +kernel
theorem dX0_countAt_17 : decode cX0_countAt 17 = .ok (.iaload, 1) := by decide +kernel
theorem dX0_countAt_18 : decode cX0_countAt 18 = .ok (.iload_n 1, 1) := by decide +kernel
theorem dX0_countAt_19 : decode cX0_countAt 19 = .ok (.if_icmp .ne 26, 3) := by decide +kernel
theorem dX0_countAt_22 : decode cX0_countAt 22 = .ok (.aload_n 0, 1) := by decide +kernel
theorem dX0_countAt_23 : decode cX0_countAt 23 = .ok (.getfield 9, 3) := by decide +kernel
theorem dX0_countAt_26 : decode cX0_countAt 26 = .ok (.iload_n 3, 1) := by decide +kernel
theorem dX0_countAt_27 : decode cX0_countAt 27 = .ok (.iaload, 1) := by decide +kernel
theorem dX0_countAt_28 : decode cX0_countAt 28 = .ok (.iconst 1, 1) := by decide +kernel
theorem dX0_countAt_29 : decode cX0_countAt 29 = .ok (.if_icmp .eq 13, 3) := by decide +kernel
theorem dX0_countAt_32 : decode cX0_countAt 32 = .ok (.aload_n 0, 1) := by decide +kernel
theorem dX0_countAt_33 : decode cX0_countAt 33 = .ok (.getfield 9, 3) := by decide +kernel
theorem dX0_countAt_36 : decode cX0_countAt 36 = .ok (.iload_n 3, 1) := by decide +kernel
theorem dX0_countAt_37 : decode cX0_countAt 37 = .ok (.iaload, 1) := by decide +kernel
theorem dX0_countAt_38 : decode cX0_countAt 38 = .ok (.iconst 2, 1) := by decide +kernel
theorem dX0_countAt_39 : decode cX0_countAt 39 = .ok (.if_icmp .ne 6, 3) := by decide +kernel
theorem dX0_countAt_42 : decode cX0_countAt 42 = .ok (.iinc 2 1, 3) := by decide +kernel
theorem dX0_countAt_45 : decode cX0_countAt 45 = .ok (.iinc 3 1, 3) := by decide +kernel
theorem dX0_countAt_48 : decode cX0_countAt 48 = .ok (.goto (-44), 3) := by decide +kernel
theorem dX0_countAt_51 : decode cX0_countAt 51 = .ok (.iload_n 2, 1) := by decide +kernel
theorem dX0_countAt_52 : decode cX0_countAt 52 = .ok (.ireturn, 1) := by decide +kernel
theorem dX0_firstAt_0 : decode cX0_firstAt 0 = .ok (.iconst 0, 1) := by decide +kernel
theorem dX0_firstAt_1 : decode cX0_firstAt 1 = .ok (.istore_n 3, 1) := by decide +kernel
theorem dX0_firstAt_2 : decode cX0_firstAt 2 = .ok (.iload_n 3, 1) := by decide +kernel
theorem dX0_firstAt_3 : decode cX0_firstAt 3 = .ok (.aload_n 0, 1) := by decide +kernel
theorem dX0_firstAt_4 : decode cX0_firstAt 4 = .ok (.getfield 30, 3) := by decide +kernel
theorem dX0_firstAt_7 : decode cX0_firstAt 7 = .ok (.if_icmp .ge 31, 3) := by decide +kernel
theorem dX0_firstAt_10 : decode cX0_firstAt 10 = .ok (.aload_n 0, 1) := by decide +kernel
theorem dX0_firstAt_11 : decode cX0_firstAt 11 = .ok (.getfield 24, 3) := by decide +kernel
theorem dX0_firstAt_14 : decode cX0_firstAt 14 = .ok (.iload_n 3, 1) := by decide +kernel
theorem dX0_firstAt_15 : decode cX0_firstAt 15 = .ok (.iaload, 1) := by decide +kernel
theorem dX0_firstAt_16 : decode cX0_firstAt 16 = .ok (.iload_n 1, 1) := by decide +kernel
theorem dX0_firstAt_17 : decode cX0_firstAt 17 = .ok (.if_icmp .ne 15, 3) := by decide +kernel
theorem dX0_firstAt_20 : decode cX0_firstAt 20 = .ok (.aload_n 0, 1) := by decide +kernel
theorem dX0_firstAt_21 : decode cX0_firstAt 21 = .ok (.getfield 9, 3) := by decide +kernel
theorem dX0_firstAt_24 : decode cX0_firstAt 24 = .ok (.iload_n 3, 1) := by decide +kernel
theorem dX0_firstAt_25 : decode cX0_firstAt 25 = .ok (.iaload, 1) := by decide +kernel
theorem dX0_firstAt_26 : decode cX0_firstAt 26 = .ok (.iload_n 2, 1) := by decide +kernel
theorem dX0_firstAt_27 : decode cX0_firstAt 27 = .ok (.if_icmp .ne 5, 3) := by decide +kernel
theorem dX0_firstAt_30 : decode cX0_firstAt 30 = .ok (.iload_n 3, 1) := by decide +kernel
theorem dX0_firstAt_31 : decode cX0_firstAt 31 = .ok (.ireturn, 1) := by decide +kernel
theorem dX0_firstAt_32 : decode cX0_firstAt 32 = .ok (.iinc 3 1, 3) := by decide +kernel
theorem dX0_firstAt_35 : decode cX0_firstAt 35 = .ok (.goto (-33), 3) := by decide +kernel
theorem dX0_firstAt_38 : decode cX0_firstAt 38 = .ok (.bipush (-4), 2) := by decide +kernel
theorem dX0_firstAt_40 : decode cX0_firstAt 40 = .ok (.ireturn, 1) := by decide +kernel
theorem dX0_queue_0 : decode cX0_queue 0 = .ok (.aload_n 0, 1) := by decide +kernel
theorem dX0_queue_1 : decode cX0_queue 1 = .ok (.getfield 9, 3) := by decide +kernel
theorem dX0_queue_4 : decode cX0_queue 4 = .ok (.iload_n 1, 1) := by decide +kernel
theorem dX0_queue_5 : decode cX0_queue 5 = .ok (.iconst 1, 1) := by decide +kernel
theorem dX0_queue_6 : decode cX0_queue 6 = .ok (.iastore, 1) := by decide +kernel
theorem dX0_queue_7 : decode cX0_queue 7 = .ok (.aload_n 0, 1) := by decide +kernel
theorem dX0_queue_8 : decode cX0_queue 8 = .ok (.getfield 24, 3) := by decide +kernel
theorem dX0_queue_11 : decode cX0_queue 11 = .ok (.iload_n 1, 1) := by decide +kernel
theorem dX0_queue_12 : decode cX0_queue 12 = .ok (.iload_n 2, 1) := by decide +kernel
theorem dX0_queue_13 : decode cX0_queue 13 = .ok (.iastore, 1) := by decide +kernel
theorem dX0_queue_14 : decode cX0_queue 14 = .ok (.return_, 1) := by decide +kernel
theorem dX0_step_0 : decode cX0_step 0 = .ok (.aload_n 0, 1) := by decide +kernel
theorem dX0_step_1 : decode cX0_step 1 = .ok (.getfield 15, 3) := by decide +kernel
theorem dX0_step_4 : decode cX0_step 4 = .ok (.iload_n 1, 1) := by decide +kernel
theorem dX0_step_5 : decode cX0_step 5 = .ok (.dup2, 1) := by decide +kernel
theorem dX0_step_6 : decode cX0_step 6 = .ok (.iaload, 1) := by decide +kernel
theorem dX0_step_7 : decode cX0_step 7 = .ok (.iconst 1, 1) := by decide +kernel
theorem dX0_step_8 : decode cX0_step 8 = .ok (.iadd, 1) := by decide +kernel
theorem dX0_step_9 : decode cX0_step 9 = .ok (.iastore, 1) := by decide +kernel
theorem dX0_step_10 : decode cX0_step 10 = .ok (.aload_n 0, 1) := by decide +kernel
theorem dX0_step_11 : decode cX0_step 11 = .ok (.getfield 15, 3) := by decide +kernel
theorem dX0_step_14 : decode cX0_step 14 = .ok (.iload_n 1, 1) := by decide +kernel
theorem dX0_step_15 : decode cX0_step 15 = .ok (.iaload, 1) := by decide +kernel
theorem dX0_step_16 : decode cX0_step 16 = .ok (.iload_n 2, 1) := by decide +kernel
theorem dX0_step_17 : decode cX0_step 17 = .ok (.if_icmp .lt 18, 3) := by decide +kernel
theorem dX0_step_20 : decode cX0_step 20 = .ok (.aload_n 0, 1) := by decide +kernel
theorem dX0_step_21 : decode cX0_step 21 = .ok (.getfield 9, 3) := by decide +kernel
theorem dX0_step_24 : decode cX0_step 24 = .ok (.iload_n 1, 1) := by decide +kernel
theorem dX0_step_25 : decode cX0_step 25 = .ok (.iconst 5, 1) := by decide +kernel
theorem dX0_step_26 : decode cX0_step 26 = .ok (.iastore, 1) := by decide +kernel
theorem dX0_step_27 : decode cX0_step 27 = .ok (.aload_n 0, 1) := by decide +kernel
theorem dX0_step_28 : decode cX0_step 28 = .ok (.getfield 15, 3) := by decide +kernel
theorem dX0_step_31 : decode cX0_step 31 = .ok (.iload_n 1, 1) := by decide +kernel
theorem dX0_step_32 : decode cX0_step 32 = .ok (.bipush (-4), 2) := by decide +kernel
theorem dX0_step_34 : decode cX0_step 34 = .ok (.iastore, 1) := by decide +kernel
theorem dX0_step_35 : decode cX0_step 35 = .ok (.return_, 1) := by decide +kernel
theorem dX0_feed_0 : decode cX0_feed 0 = .ok (.iload_n 1, 1) := by decide +kernel
theorem dX0_feed_1 : decode cX0_feed 1 = .ok (.bipush (-4), 2) := by decide +kernel
theorem dX0_feed_3 : decode cX0_feed 3 = .ok (.if_icmp .ne 4, 3) := by decide +kernel
theorem dX0_feed_6 : decode cX0_feed 6 = .ok (.return_, 1) := by decide +kernel
theorem dX0_feed_7 : decode cX0_feed 7 = .ok (.aload_n 0, 1) := by decide +kernel
theorem dX0_feed_8 : decode cX0_feed 8 = .ok (.getfield 9, 3) := by decide +kernel
theorem dX0_feed_11 : decode cX0_feed 11 = .ok (.iload_n 1, 1) := by decide +kernel
theorem dX0_feed_12 : decode cX0_feed 12 = .ok (.iconst 3, 1) := by decide +kernel
theorem dX0_feed_13 : decode cX0_feed 13 = .ok (.iastore, 1) := by decide +kernel
theorem dX0_feed_14 : decode cX0_feed 14 = .ok (.aload_n 0, 1) := by decide +kernel
theorem dX0_feed_15 : decode cX0_feed 15 = .ok (.getfield 15, 3) := by decide +kernel
theorem dX0_feed_18 : decode cX0_feed 18 = .ok (.iload_n 1, 1) := by decide +kernel
theorem dX0_feed_19 : decode cX0_feed 19 = .ok (.bipush (-4), 2) := by decide +kernel
theorem dX0_feed_21 : decode cX0_feed 21 = .ok (.iastore, 1) := by decide +kernel
theorem dX0_feed_22 : decode cX0_feed 22 = .ok (.aload_n 0, 1) := by decide +kernel
theorem dX0_feed_23 : decode cX0_feed 23 = .ok (.getfield 27, 3) := by decide +kernel
theorem dX0_feed_26 : decode cX0_feed 26 = .ok (.iload_n 1, 1) := by decide +kernel
theorem dX0_feed_27 : decode cX0_feed 27 = .ok (.iload_n 2, 1) := by decide +kernel
theorem dX0_feed_28 : decode cX0_feed 28 = .ok (.iastore, 1) := by decide +kernel
theorem dX0_feed_29 : decode cX0_feed 29 = .ok (.return_, 1) := by decide +kernel
theorem dX0_losePatience_0 : decode cX0_losePatience 0 = .ok (.iconst 0, 1) := by decide +kernel
theorem dX0_losePatience_1 : decode cX0_losePatience 1 = .ok (.istore_n 1, 1) := by decide +kernel
theorem dX0_losePatience_2 : decode cX0_losePatience 2 = .ok (.iload_n 1, 1) := by decide +kernel
theorem dX0_losePatience_3 : decode cX0_losePatience 3 = .ok (.aload_n 0, 1) := by decide +kernel
theorem dX0_losePatience_4 : decode cX0_losePatience 4 = .ok (.getfield 30, 3) := by decide +kernel
theorem dX0_losePatience_7 : decode cX0_losePatience 7 = .ok (.if_icmp .ge 61, 3) := by decide +kernel
theorem dX0_losePatience_10 : decode cX0_losePatience 10 = .ok (.aload_n 0, 1) := by decide +kernel
theorem dX0_losePatience_11 : decode cX0_losePatience 11 = .ok (.getfield 9, 3) := by decide +kernel
theorem dX0_losePatience_14 : decode cX0_losePatience 14 = .ok (.iload_n 1, 1) := by decide +kernel
theorem dX0_losePatience_15 : decode cX0_losePatience 15 = .ok (.iaload, 1) := by decide +kernel
theorem dX0_losePatience_16 : decode cX0_losePatience 16 = .ok (.iconst 1, 1) := by decide +kernel
theorem dX0_losePatience_17 : decode cX0_losePatience 17 = .ok (.if_icmp .ne 45, 3) := by decide +kernel
theorem dX0_losePatience_20 : decode cX0_losePatience 20 = .ok (.aload_n 0, 1) := by decide +kernel
theorem dX0_losePatience_21 : decode cX0_losePatience 21 = .ok (.getfield 18, 3) := by decide +kernel
theorem dX0_losePatience_24 : decode cX0_losePatience 24 = .ok (.iload_n 1, 1) := by decide +kernel
theorem dX0_losePatience_25 : decode cX0_losePatience 25 = .ok (.dup2, 1) := by decide +kernel
theorem dX0_losePatience_26 : decode cX0_losePatience 26 = .ok (.iaload, 1) := by decide +kernel
theorem dX0_losePatience_27 : decode cX0_losePatience 27 = .ok (.iconst 1, 1) := by decide +kernel
theorem dX0_losePatience_28 : decode cX0_losePatience 28 = .ok (.isub, 1) := by decide +kernel
theorem dX0_losePatience_29 : decode cX0_losePatience 29 = .ok (.iastore, 1) := by decide +kernel
theorem dX0_losePatience_30 : decode cX0_losePatience 30 = .ok (.aload_n 0, 1) := by decide +kernel
theorem dX0_losePatience_31 : decode cX0_losePatience 31 = .ok (.getfield 18, 3) := by decide +kernel
theorem dX0_losePatience_34 : decode cX0_losePatience 34 = .ok (.iload_n 1, 1) := by decide +kernel
theorem dX0_losePatience_35 : decode cX0_losePatience 35 = .ok (.iaload, 1) := by decide +kernel
theorem dX0_losePatience_36 : decode cX0_losePatience 36 = .ok (.ifCond .ne 26, 3) := by decide +kernel
theorem dX0_losePatience_39 : decode cX0_losePatience 39 = .ok (.aload_n 0, 1) := by decide +kernel
theorem dX0_losePatience_40 : decode cX0_losePatience 40 = .ok (.getfield 9, 3) := by decide +kernel
theorem dX0_losePatience_43 : decode cX0_losePatience 43 = .ok (.iload_n 1, 1) := by decide +kernel
theorem dX0_losePatience_44 : decode cX0_losePatience 44 = .ok (.iconst 4, 1) := by decide +kernel
theorem dX0_losePatience_45 : decode cX0_losePatience 45 = .ok (.iastore, 1) := by decide +kernel
theorem dX0_losePatience_46 : decode cX0_losePatience 46 = .ok (.aload_n 0, 1) := by decide +kernel
theorem dX0_losePatience_47 : decode cX0_losePatience 47 = .ok (.getfield 15, 3) := by decide +kernel
theorem dX0_losePatience_50 : decode cX0_losePatience 50 = .ok (.iload_n 1, 1) := by decide +kernel
theorem dX0_losePatience_51 : decode cX0_losePatience 51 = .ok (.bipush (-4), 2) := by decide +kernel
theorem dX0_losePatience_53 : decode cX0_losePatience 53 = .ok (.iastore, 1) := by decide +kernel
theorem dX0_losePatience_54 : decode cX0_losePatience 54 = .ok (.aload_n 0, 1) := by decide +kernel
theorem dX0_losePatience_55 : decode cX0_losePatience 55 = .ok (.getfield 24, 3) := by decide +kernel
theorem dX0_losePatience_58 : decode cX0_losePatience 58 = .ok (.iload_n 1, 1) := by decide +kernel
theorem dX0_losePatience_59 : decode cX0_losePatience 59 = .ok (.bipush (-4), 2) := by decide +kernel
theorem dX0_losePatience_61 : decode cX0_losePatience 61 = .ok (.iastore, 1) := by decide +kernel
theorem dX0_losePatience_62 : decode cX0_losePatience 62 = .ok (.iinc 1 1, 3) := by decide +kernel
theorem dX0_losePatience_65 : decode cX0_losePatience 65 = .ok (.goto (-63), 3) := by decide +kernel
theorem dX0_losePatience_68 : decode cX0_losePatience 68 = .ok (.return_, 1) := by decide +kernel
theorem dX0_sellers_0 : decode cX0_sellers 0 = .ok (.iconst 0, 1) := by decide +kernel
theorem dX0_sellers_1 : decode cX0_sellers 1 = .ok (.istore 4, 2) := by decide +kernel
theorem dX0_sellers_3 : decode cX0_sellers 3 = .ok (.iconst 0, 1) := by decide +kernel
theorem dX0_sellers_4 : decode cX0_sellers 4 = .ok (.istore 5, 2) := by decide +kernel
theorem dX0_sellers_6 : decode cX0_sellers 6 = .ok (.iload 5, 2) := by decide +kernel
theorem dX0_sellers_8 : decode cX0_sellers 8 = .ok (.aload_n 0, 1) := by decide +kernel
theorem dX0_sellers_9 : decode cX0_sellers 9 = .ok (.getfield 30, 3) := by decide +kernel
theorem dX0_sellers_12 : decode cX0_sellers 12 = .ok (.if_icmp .ge 67, 3) := by decide +kernel
theorem dX0_sellers_15 : decode cX0_sellers 15 = .ok (.aload_n 0, 1) := by decide +kernel
theorem dX0_sellers_16 : decode cX0_sellers 16 = .ok (.getfield 9, 3) := by decide +kernel
theorem dX0_sellers_19 : decode cX0_sellers 19 = .ok (.iload 5, 2) := by decide +kernel
theorem dX0_sellers_21 : decode cX0_sellers 21 = .ok (.iaload, 1) := by decide +kernel
theorem dX0_sellers_22 : decode cX0_sellers 22 = .ok (.iconst 3, 1) := by decide +kernel
theorem dX0_sellers_23 : decode cX0_sellers 23 = .ok (.if_icmp .ne 50, 3) := by decide +kernel
theorem dX0_sellers_26 : decode cX0_sellers 26 = .ok (.aload_n 0, 1) := by decide +kernel
theorem dX0_sellers_27 : decode cX0_sellers 27 = .ok (.getfield 21, 3) := by decide +kernel
theorem dX0_sellers_30 : decode cX0_sellers 30 = .ok (.iload 5, 2) := by decide +kernel
theorem dX0_sellers_32 : decode cX0_sellers 32 = .ok (.iaload, 1) := by decide +kernel
theorem dX0_sellers_33 : decode cX0_sellers 33 = .ok (.iload_n 1, 1) := by decide +kernel
theorem dX0_sellers_34 : decode cX0_sellers 34 = .ok (.if_icmp .ne 39, 3) := by decide +kernel
theorem dX0_sellers_37 : decode cX0_sellers 37 = .ok (.aload_n 0, 1) := by decide +kernel
theorem dX0_sellers_38 : decode cX0_sellers 38 = .ok (.getfield 27, 3) := by decide +kernel
theorem dX0_sellers_41 : decode cX0_sellers 41 = .ok (.iload 5, 2) := by decide +kernel
theorem dX0_sellers_43 : decode cX0_sellers 43 = .ok (.iaload, 1) := by decide +kernel
theorem dX0_sellers_44 : decode cX0_sellers 44 = .ok (.iload_n 2, 1) := by decide +kernel
theorem dX0_sellers_45 : decode cX0_sellers 45 = .ok (.if_icmp .lt 28, 3) := by decide +kernel
theorem dX0_sellers_48 : decode cX0_sellers 48 = .ok (.aload_n 0, 1) := by decide +kernel
theorem dX0_sellers_49 : decode cX0_sellers 49 = .ok (.getfield 27, 3) := by decide +kernel
theorem dX0_sellers_52 : decode cX0_sellers 52 = .ok (.iload 5, 2) := by decide +kernel
theorem dX0_sellers_54 : decode cX0_sellers 54 = .ok (.iaload, 1) := by decide +kernel
theorem dX0_sellers_55 : decode cX0_sellers 55 = .ok (.iload_n 3, 1) := by decide +kernel
theorem dX0_sellers_56 : decode cX0_sellers 56 = .ok (.if_icmp .gt 17, 3) := by decide +kernel
theorem dX0_sellers_59 : decode cX0_sellers 59 = .ok (.iload 4, 2) := by decide +kernel
theorem dX0_sellers_61 : decode cX0_sellers 61 = .ok (.iconst 1, 1) := by decide +kernel
theorem dX0_sellers_62 : decode cX0_sellers 62 = .ok (.aload_n 0, 1) := by decide +kernel
theorem dX0_sellers_63 : decode cX0_sellers 63 = .ok (.getfield 24, 3) := by decide +kernel
theorem dX0_sellers_66 : decode cX0_sellers 66 = .ok (.iload 5, 2) := by decide +kernel
theorem dX0_sellers_68 : decode cX0_sellers 68 = .ok (.iaload, 1) := by decide +kernel
theorem dX0_sellers_69 : decode cX0_sellers 69 = .ok (.ishl, 1) := by decide +kernel
theorem dX0_sellers_70 : decode cX0_sellers 70 = .ok (.ior, 1) := by decide +kernel
theorem dX0_sellers_71 : decode cX0_sellers 71 = .ok (.istore 4, 2) := by decide +kernel
theorem dX0_sellers_73 : decode cX0_sellers 73 = .ok (.iinc 5 1, 3) := by decide +kernel
theorem dX0_sellers_76 : decode cX0_sellers 76 = .ok (.goto (-70), 3) := by decide +kernel
theorem dX0_sellers_79 : decode cX0_sellers 79 = .ok (.iload 4, 2) := by decide +kernel
theorem dX0_sellers_81 : decode cX0_sellers 81 = .ok (.ireturn, 1) := by decide +kernel
theorem dX0_become_0 : decode cX0_become 0 = .ok (.aload_n 0, 1) := by decide +kernel
theorem dX0_become_1 : decode cX0_become 1 = .ok (.aload_n 1, 1) := by decide +kernel
theorem dX0_become_2 : decode cX0_become 2 = .ok (.getfield 30, 3) := by decide +kernel
theorem dX0_become_5 : decode cX0_become 5 = .ok (.putfield 30, 3) := by decide +kernel
theorem dX0_become_8 : decode cX0_become 8 = .ok (.aload_n 1, 1) := by decide +kernel
theorem dX0_become_9 : decode cX0_become 9 = .ok (.getfield 9, 3) := by decide +kernel
theorem dX0_become_12 : decode cX0_become 12 = .ok (.aload_n 0, 1) := by decide +kernel
theorem dX0_become_13 : decode cX0_become 13 = .ok (.getfield 9, 3) := by decide +kernel
theorem dX0_become_16 : decode cX0_become 16 = .ok (.invokestatic 34, 3) := by decide +kernel
theorem dX0_become_19 : decode cX0_become 19 = .ok (.aload_n 1, 1) := by decide +kernel
theorem dX0_become_20 : decode cX0_become 20 = .ok (.getfield 15, 3) := by decide +kernel
theorem dX0_become_23 : decode cX0_become 23 = .ok (.aload_n 0, 1) := by decide +kernel
theorem dX0_become_24 : decode cX0_become 24 = .ok (.getfield 15, 3) := by decide +kernel
theorem dX0_become_27 : decode cX0_become 27 = .ok (.invokestatic 34, 3) := by decide +kernel
theorem dX0_become_30 : decode cX0_become 30 = .ok (.aload_n 1, 1) := by decide +kernel
theorem dX0_become_31 : decode cX0_become 31 = .ok (.getfield 18, 3) := by decide +kernel
theorem dX0_become_34 : decode cX0_become 34 = .ok (.aload_n 0, 1) := by decide +kernel
theorem dX0_become_35 : decode cX0_become 35 = .ok (.getfield 18, 3) := by decide +kernel
theorem dX0_become_38 : decode cX0_become 38 = .ok (.invokestatic 34, 3) := by decide +kernel
theorem dX0_become_41 : decode cX0_become 41 = .ok (.aload_n 1, 1) := by decide +kernel
theorem dX0_become_42 : decode cX0_become 42 = .ok (.getfield 21, 3) := by decide +kernel
theorem dX0_become_45 : decode cX0_become 45 = .ok (.aload_n 0, 1) := by decide +kernel
theorem dX0_become_46 : decode cX0_become 46 = .ok (.getfield 21, 3) := by decide +kernel
theorem dX0_become_49 : decode cX0_become 49 = .ok (.invokestatic 34, 3) := by decide +kernel
theorem dX0_become_52 : decode cX0_become 52 = .ok (.aload_n 1, 1) := by decide +kernel
theorem dX0_become_53 : decode cX0_become 53 = .ok (.getfield 24, 3) := by decide +kernel
theorem dX0_become_56 : decode cX0_become 56 = .ok (.aload_n 0, 1) := by decide +kernel
theorem dX0_become_57 : decode cX0_become 57 = .ok (.getfield 24, 3) := by decide +kernel
theorem dX0_become_60 : decode cX0_become 60 = .ok (.invokestatic 34, 3) := by decide +kernel
theorem dX0_become_63 : decode cX0_become 63 = .ok (.aload_n 1, 1) := by decide +kernel
theorem dX0_become_64 : decode cX0_become 64 = .ok (.getfield 27, 3) := by decide +kernel
theorem dX0_become_67 : decode cX0_become 67 = .ok (.aload_n 0, 1) := by decide +kernel
theorem dX0_become_68 : decode cX0_become 68 = .ok (.getfield 27, 3) := by decide +kernel
theorem dX0_become_71 : decode cX0_become 71 = .ok (.invokestatic 34, 3) := by decide +kernel
theorem dX0_become_74 : decode cX0_become 74 = .ok (.return_, 1) := by decide +kernel
theorem dX1_init_0 : decode cX1_init 0 = .ok (.aload_n 0, 1) := by decide +kernel
theorem dX1_init_1 : decode cX1_init 1 = .ok (.invokespecial 3, 3) := by decide +kernel
theorem dX1_init_4 : decode cX1_init 4 = .ok (.aload_n 0, 1) := by decide +kernel
theorem dX1_init_5 : decode cX1_init 5 = .ok (.aload_n 1, 1) := by decide +kernel
theorem dX1_init_6 : decode cX1_init 6 = .ok (.putfield 9, 3) := by decide +kernel
theorem dX1_init_9 : decode cX1_init 9 = .ok (.aload_n 0, 1) := by decide +kernel
theorem dX1_init_10 : decode cX1_init 10 = .ok (.new 15, 3) := by decide +kernel
theorem dX1_init_13 : decode cX1_init 13 = .ok (.dup, 1) := by decide +kernel
theorem dX1_init_14 : decode cX1_init 14 = .ok (.invokespecial 17, 3) := by decide +kernel
theorem dX1_init_17 : decode cX1_init 17 = .ok (.putfield 18, 3) := by decide +kernel
theorem dX1_init_20 : decode cX1_init 20 = .ok (.aload_n 0, 1) := by decide +kernel
theorem dX1_init_21 : decode cX1_init 21 = .ok (.iconst 5, 1) := by decide +kernel
theorem dX1_init_22 : decode cX1_init 22 = .ok (.newarray .int, 2) := by decide +kernel
theorem dX1_init_24 : decode cX1_init 24 = .ok (.putfield 22, 3) := by decide +kernel
theorem dX1_init_27 : decode cX1_init 27 = .ok (.aload_n 0, 1) := by decide +kernel
theorem dX1_init_28 : decode cX1_init 28 = .ok (.iconst 5, 1) := by decide +kernel
theorem dX1_init_29 : decode cX1_init 29 = .ok (.newarray .int, 2) := by decide +kernel
theorem dX1_init_31 : decode cX1_init 31 = .ok (.putfield 26, 3) := by decide +kernel
theorem dX1_init_34 : decode cX1_init 34 = .ok (.aload_n 0, 1) := by decide +kernel
theorem dX1_init_35 : decode cX1_init 35 = .ok (.iconst 5, 1) := by decide +kernel
theorem dX1_init_36 : decode cX1_init 36 = .ok (.newarray .int, 2) := by decide +kernel
theorem dX1_init_38 : decode cX1_init 38 = .ok (.putfield 29, 3) := by decide +kernel
theorem dX1_init_41 : decode cX1_init 41 = .ok (.aload_n 0, 1) := by decide +kernel
theorem dX1_init_42 : decode cX1_init 42 = .ok (.iconst 5, 1) := by decide +kernel
theorem dX1_init_43 : decode cX1_init 43 = .ok (.newarray .int, 2) := by decide +kernel
theorem dX1_init_45 : decode cX1_init 45 = .ok (.putfield 32, 3) := by decide +kernel
theorem dX1_init_48 : decode cX1_init 48 = .ok (.aload_n 0, 1) := by decide +kernel
theorem dX1_init_49 : decode cX1_init 49 = .ok (.iconst 3, 1) := by decide +kernel
theorem dX1_init_50 : decode cX1_init 50 = .ok (.newarray .int, 2) := by decide +kernel
theorem dX1_init_52 : decode cX1_init 52 = .ok (.putfield 35, 3) := by decide +kernel
theorem dX1_init_55 : decode cX1_init 55 = .ok (.aload_n 0, 1) := by decide +kernel
theorem dX1_init_56 : decode cX1_init 56 = .ok (.iconst 3, 1) := by decide +kernel
theorem dX1_init_57 : decode cX1_init 57 = .ok (.newarray .int, 2) := by decide +kernel
theorem dX1_init_59 : decode cX1_init 59 = .ok (.putfield 38, 3) := by decide +kernel
theorem dX1_init_62 : decode cX1_init 62 = .ok (.iconst 0, 1) := by decide +kernel
theorem dX1_init_63 : decode cX1_init 63 = .ok (.istore_n 2, 1) := by decide +kernel
theorem dX1_init_64 : decode cX1_init 64 = .ok (.iload_n 2, 1) := by decide +kernel
theorem dX1_init_65 : decode cX1_init 65 = .ok (.iconst 5, 1) := by decide +kernel
theorem dX1_init_66 : decode cX1_init 66 = .ok (.if_icmp .ge 17, 3) := by decide +kernel
theorem dX1_init_69 : decode cX1_init 69 = .ok (.aload_n 0, 1) := by decide +kernel
theorem dX1_init_70 : decode cX1_init 70 = .ok (.getfield 22, 3) := by decide +kernel
theorem dX1_init_73 : decode cX1_init 73 = .ok (.iload_n 2, 1) := by decide +kernel
theorem dX1_init_74 : decode cX1_init 74 = .ok (.bipush (-4), 2) := by decide +kernel
theorem dX1_init_76 : decode cX1_init 76 = .ok (.iastore, 1) := by decide +kernel
theorem dX1_init_77 : decode cX1_init 77 = .ok (.iinc 2 1, 3) := by decide +kernel
theorem dX1_init_80 : decode cX1_init 80 = .ok (.goto (-16), 3) := by decide +kernel
theorem dX1_init_83 : decode cX1_init 83 = .ok (.return_, 1) := by decide +kernel
theorem dX1_clear_0 : decode cX1_clear 0 = .ok (.aload_n 0, 1) := by decide +kernel
theorem dX1_clear_1 : decode cX1_clear 1 = .ok (.iconst 0, 1) := by decide +kernel
theorem dX1_clear_2 : decode cX1_clear 2 = .ok (.putfield 41, 3) := by decide +kernel
theorem dX1_clear_5 : decode cX1_clear 5 = .ok (.aload_n 0, 1) := by decide +kernel
theorem dX1_clear_6 : decode cX1_clear 6 = .ok (.getfield 18, 3) := by decide +kernel
theorem dX1_clear_9 : decode cX1_clear 9 = .ok (.iconst 0, 1) := by decide +kernel
theorem dX1_clear_10 : decode cX1_clear 10 = .ok (.putfield 45, 3) := by decide +kernel
theorem dX1_clear_13 : decode cX1_clear 13 = .ok (.iconst 0, 1) := by decide +kernel
theorem dX1_clear_14 : decode cX1_clear 14 = .ok (.istore_n 1, 1) := by decide +kernel
theorem dX1_clear_15 : decode cX1_clear 15 = .ok (.iload_n 1, 1) := by decide +kernel
theorem dX1_clear_16 : decode cX1_clear 16 = .ok (.iconst 5, 1) := by decide +kernel
theorem dX1_clear_17 : decode cX1_clear 17 = .ok (.if_icmp .ge 38, 3) := by decide +kernel
theorem dX1_clear_20 : decode cX1_clear 20 = .ok (.aload_n 0, 1) := by decide +kernel
theorem dX1_clear_21 : decode cX1_clear 21 = .ok (.getfield 22, 3) := by decide +kernel
theorem dX1_clear_24 : decode cX1_clear 24 = .ok (.iload_n 1, 1) := by decide +kernel
theorem dX1_clear_25 : decode cX1_clear 25 = .ok (.bipush (-4), 2) := by decide +kernel
theorem dX1_clear_27 : decode cX1_clear 27 = .ok (.iastore, 1) := by decide +kernel
theorem dX1_clear_28 : decode cX1_clear 28 = .ok (.aload_n 0, 1) := by decide +kernel
theorem dX1_clear_29 : decode cX1_clear 29 = .ok (.getfield 26, 3) := by decide +kernel
theorem dX1_clear_32 : decode cX1_clear 32 = .ok (.iload_n 1, 1) := by decide +kernel
theorem dX1_clear_33 : decode cX1_clear 33 = .ok (.iconst 0, 1) := by decide +kernel
theorem dX1_clear_34 : decode cX1_clear 34 = .ok (.iastore, 1) := by decide +kernel
theorem dX1_clear_35 : decode cX1_clear 35 = .ok (.aload_n 0, 1) := by decide +kernel
theorem dX1_clear_36 : decode cX1_clear 36 = .ok (.getfield 29, 3) := by decide +kernel
theorem dX1_clear_39 : decode cX1_clear 39 = .ok (.iload_n 1, 1) := by decide +kernel
theorem dX1_clear_40 : decode cX1_clear 40 = .ok (.iconst 0, 1) := by decide +kernel
theorem dX1_clear_41 : decode cX1_clear 41 = .ok (.iastore, 1) := by decide +kernel
theorem dX1_clear_42 : decode cX1_clear 42 = .ok (.aload_n 0, 1) := by decide +kernel
theorem dX1_clear_43 : decode cX1_clear 43 = .ok (.getfield 32, 3) := by decide +kernel
theorem dX1_clear_46 : decode cX1_clear 46 = .ok (.iload_n 1, 1) := by decide +kernel
theorem dX1_clear_47 : decode cX1_clear 47 = .ok (.iconst 0, 1) := by decide +kernel
theorem dX1_clear_48 : decode cX1_clear 48 = .ok (.iastore, 1) := by decide +kernel
theorem dX1_clear_49 : decode cX1_clear 49 = .ok (.iinc 1 1, 3) := by decide +kernel
theorem dX1_clear_52 : decode cX1_clear 52 = .ok (.goto (-37), 3) := by decide +kernel
theorem dX1_clear_55 : decode cX1_clear 55 = .ok (.iconst 0, 1) := by decide +kernel
theorem dX1_clear_56 : decode cX1_clear 56 = .ok (.istore_n 1, 1) := by decide +kernel
theorem dX1_clear_57 : decode cX1_clear 57 = .ok (.iload_n 1, 1) := by decide +kernel
theorem dX1_clear_58 : decode cX1_clear 58 = .ok (.iconst 3, 1) := by decide +kernel
theorem dX1_clear_59 : decode cX1_clear 59 = .ok (.if_icmp .ge 23, 3) := by decide +kernel
theorem dX1_clear_62 : decode cX1_clear 62 = .ok (.aload_n 0, 1) := by decide +kernel
theorem dX1_clear_63 : decode cX1_clear 63 = .ok (.getfield 35, 3) := by decide +kernel
theorem dX1_clear_66 : decode cX1_clear 66 = .ok (.iload_n 1, 1) := by decide +kernel
theorem dX1_clear_67 : decode cX1_clear 67 = .ok (.iconst 0, 1) := by decide +kernel
theorem dX1_clear_68 : decode cX1_clear 68 = .ok (.iastore, 1) := by decide +kernel
theorem dX1_clear_69 : decode cX1_clear 69 = .ok (.aload_n 0, 1) := by decide +kernel
theorem dX1_clear_70 : decode cX1_clear 70 = .ok (.getfield 38, 3) := by decide +kernel
theorem dX1_clear_73 : decode cX1_clear 73 = .ok (.iload_n 1, 1) := by decide +kernel
theorem dX1_clear_74 : decode cX1_clear 74 = .ok (.iconst 0, 1) := by decide +kernel
theorem dX1_clear_75 : decode cX1_clear 75 = .ok (.iastore, 1) := by decide +kernel
theorem dX1_clear_76 : decode cX1_clear 76 = .ok (.iinc 1 1, 3) := by decide +kernel
theorem dX1_clear_79 : decode cX1_clear 79 = .ok (.goto (-22), 3) := by decide +kernel
theorem dX1_clear_82 : decode cX1_clear 82 = .ok (.return_, 1) := by decide +kernel
theorem dX1_setUp_0 : decode cX1_setUp 0 = .ok (.iconst 0, 1) := by decide +kernel
theorem dX1_setUp_1 : decode cX1_setUp 1 = .ok (.istore_n 2, 1) := by decide +kernel
theorem dX1_setUp_2 : decode cX1_setUp 2 = .ok (.iload_n 2, 1) := by decide +kernel
theorem dX1_setUp_3 : decode cX1_setUp 3 = .ok (.iconst 5, 1) := by decide +kernel
theorem dX1_setUp_4 : decode cX1_setUp 4 = .ok (.if_icmp .ge 20, 3) := by decide +kernel
theorem dX1_setUp_7 : decode cX1_setUp 7 = .ok (.aload_n 0, 1) := by decide +kernel
theorem dX1_setUp_8 : decode cX1_setUp 8 = .ok (.getfield 22, 3) := by decide +kernel
theorem dX1_setUp_11 : decode cX1_setUp 11 = .ok (.iload_n 2, 1) := by decide +kernel
theorem dX1_setUp_12 : decode cX1_setUp 12 = .ok (.aload_n 1, 1) := by decide +kernel
theorem dX1_setUp_13 : decode cX1_setUp 13 = .ok (.iload_n 2, 1) := by decide +kernel
theorem dX1_setUp_14 : decode cX1_setUp 14 = .ok (.invokevirtual 48, 3) := by decide +kernel
theorem dX1_setUp_17 : decode cX1_setUp 17 = .ok (.iastore, 1) := by decide +kernel
theorem dX1_setUp_18 : decode cX1_setUp 18 = .ok (.iinc 2 1, 3) := by decide +kernel
theorem dX1_setUp_21 : decode cX1_setUp 21 = .ok (.goto (-19), 3) := by decide +kernel
theorem dX1_setUp_24 : decode cX1_setUp 24 = .ok (.return_, 1) := by decide +kernel
theorem dX1_standing_0 : decode cX1_standing 0 = .ok (.iconst 0, 1) := by decide +kernel
theorem dX1_standing_1 : decode cX1_standing 1 = .ok (.istore_n 1, 1) := by decide +kernel
theorem dX1_standing_2 : decode cX1_standing 2 = .ok (.iconst 0, 1) := by decide +kernel
theorem dX1_standing_3 : decode cX1_standing 3 = .ok (.istore_n 2, 1) := by decide +kernel
theorem dX1_standing_4 : decode cX1_standing 4 = .ok (.iload_n 2, 1) := by decide +kernel
theorem dX1_standing_5 : decode cX1_standing 5 = .ok (.iconst 5, 1) := by decide +kernel
theorem dX1_standing_6 : decode cX1_standing 6 = .ok (.if_icmp .ge 23, 3) := by decide +kernel
theorem dX1_standing_9 : decode cX1_standing 9 = .ok (.aload_n 0, 1) := by decide +kernel
theorem dX1_standing_10 : decode cX1_standing 10 = .ok (.getfield 22, 3) := by decide +kernel
theorem dX1_standing_13 : decode cX1_standing 13 = .ok (.iload_n 2, 1) := by decide +kernel
theorem dX1_standing_14 : decode cX1_standing 14 = .ok (.iaload, 1) := by decide +kernel
theorem dX1_standing_15 : decode cX1_standing 15 = .ok (.bipush (-4), 2) := by decide +kernel
theorem dX1_standing_17 : decode cX1_standing 17 = .ok (.if_icmp .eq 6, 3) := by decide +kernel
theorem dX1_standing_20 : decode cX1_standing 20 = .ok (.iinc 1 1, 3) := by decide +kernel
theorem dX1_standing_23 : decode cX1_standing 23 = .ok (.iinc 2 1, 3) := by decide +kernel
theorem dX1_standing_26 : decode cX1_standing 26 = .ok (.goto (-22), 3) := by decide +kernel
theorem dX1_standing_29 : decode cX1_standing 29 = .ok (.iload_n 1, 1) := by decide +kernel
theorem dX1_standing_30 : decode cX1_standing 30 = .ok (.ireturn, 1) := by decide +kernel
theorem dX1_wattsOn_0 : decode cX1_wattsOn 0 = .ok (.iconst 0, 1) := by decide +kernel
theorem dX1_wattsOn_1 : decode cX1_wattsOn 1 = .ok (.istore_n 2, 1) := by decide +kernel
theorem dX1_wattsOn_2 : decode cX1_wattsOn 2 = .ok (.iconst 0, 1) := by decide +kernel
theorem dX1_wattsOn_3 : decode cX1_wattsOn 3 = .ok (.istore_n 3, 1) := by decide +kernel
theorem dX1_wattsOn_4 : decode cX1_wattsOn 4 = .ok (.iload_n 3, 1) := by decide +kernel
theorem dX1_wattsOn_5 : decode cX1_wattsOn 5 = .ok (.iconst 5, 1) := by decide +kernel
theorem dX1_wattsOn_6 : decode cX1_wattsOn 6 = .ok (.if_icmp .ge 49, 3) := by decide +kernel
theorem dX1_wattsOn_9 : decode cX1_wattsOn 9 = .ok (.aload_n 0, 1) := by decide +kernel
theorem dX1_wattsOn_10 : decode cX1_wattsOn 10 = .ok (.getfield 22, 3) := by decide +kernel
theorem dX1_wattsOn_13 : decode cX1_wattsOn 13 = .ok (.iload_n 3, 1) := by decide +kernel
theorem dX1_wattsOn_14 : decode cX1_wattsOn 14 = .ok (.iaload, 1) := by decide +kernel
theorem dX1_wattsOn_15 : decode cX1_wattsOn 15 = .ok (.bipush (-4), 2) := by decide +kernel
theorem dX1_wattsOn_17 : decode cX1_wattsOn 17 = .ok (.if_icmp .eq 32, 3) := by decide +kernel
theorem dX1_wattsOn_20 : decode cX1_wattsOn 20 = .ok (.aload_n 0, 1) := by decide +kernel
theorem dX1_wattsOn_21 : decode cX1_wattsOn 21 = .ok (.getfield 9, 3) := by decide +kernel
theorem dX1_wattsOn_24 : decode cX1_wattsOn 24 = .ok (.aload_n 0, 1) := by decide +kernel
theorem dX1_wattsOn_25 : decode cX1_wattsOn 25 = .ok (.getfield 22, 3) := by decide +kernel
theorem dX1_wattsOn_28 : decode cX1_wattsOn 28 = .ok (.iload_n 3, 1) := by decide +kernel
theorem dX1_wattsOn_29 : decode cX1_wattsOn 29 = .ok (.iaload, 1) := by decide +kernel
theorem dX1_wattsOn_30 : decode cX1_wattsOn 30 = .ok (.invokevirtual 54, 3) := by decide +kernel
theorem dX1_wattsOn_33 : decode cX1_wattsOn 33 = .ok (.iload_n 1, 1) := by decide +kernel
theorem dX1_wattsOn_34 : decode cX1_wattsOn 34 = .ok (.if_icmp .ne 15, 3) := by decide +kernel
theorem dX1_wattsOn_37 : decode cX1_wattsOn 37 = .ok (.iload_n 2, 1) := by decide +kernel
theorem dX1_wattsOn_38 : decode cX1_wattsOn 38 = .ok (.aload_n 0, 1) := by decide +kernel
theorem dX1_wattsOn_39 : decode cX1_wattsOn 39 = .ok (.getfield 9, 3) := by decide +kernel
theorem dX1_wattsOn_42 : decode cX1_wattsOn 42 = .ok (.iload_n 3, 1) := by decide +kernel
theorem dX1_wattsOn_43 : decode cX1_wattsOn 43 = .ok (.iconst 2, 1) := by decide +kernel
theorem dX1_wattsOn_44 : decode cX1_wattsOn 44 = .ok (.invokevirtual 59, 3) := by decide +kernel
theorem dX1_wattsOn_47 : decode cX1_wattsOn 47 = .ok (.iadd, 1) := by decide +kernel
theorem dX1_wattsOn_48 : decode cX1_wattsOn 48 = .ok (.istore_n 2, 1) := by decide +kernel
theorem dX1_wattsOn_49 : decode cX1_wattsOn 49 = .ok (.iinc 3 1, 3) := by decide +kernel
theorem dX1_wattsOn_52 : decode cX1_wattsOn 52 = .ok (.goto (-48), 3) := by decide +kernel
theorem dX1_wattsOn_55 : decode cX1_wattsOn 55 = .ok (.iload_n 2, 1) := by decide +kernel
theorem dX1_wattsOn_56 : decode cX1_wattsOn 56 = .ok (.ireturn, 1) := by decide +kernel
theorem dX1_isOverLimit_0 : decode cX1_isOverLimit 0 = .ok (.aload_n 0, 1) := by decide +kernel
theorem dX1_isOverLimit_1 : decode cX1_isOverLimit 1 = .ok (.getfield 35, 3) := by decide +kernel
theorem dX1_isOverLimit_4 : decode cX1_isOverLimit 4 = .ok (.iload_n 1, 1) := by decide +kernel
theorem dX1_isOverLimit_5 : decode cX1_isOverLimit 5 = .ok (.iaload, 1) := by decide +kernel
theorem dX1_isOverLimit_6 : decode cX1_isOverLimit 6 = .ok (.aload_n 0, 1) := by decide +kernel
theorem dX1_isOverLimit_7 : decode cX1_isOverLimit 7 = .ok (.iload_n 1, 1) := by decide +kernel
theorem dX1_isOverLimit_8 : decode cX1_isOverLimit 8 = .ok (.invokevirtual 63, 3) := by decide +kernel
theorem dX1_isOverLimit_11 : decode cX1_isOverLimit 11 = .ok (.iadd, 1) := by decide +kernel
theorem dX1_isOverLimit_12 : decode cX1_isOverLimit 12 = .ok (.aload_n 0, 1) := by decide +kernel
theorem dX1_isOverLimit_13 : decode cX1_isOverLimit 13 = .ok (.getfield 9, 3) := by decide +kernel
theorem dX1_isOverLimit_16 : decode cX1_isOverLimit 16 = .ok (.iload_n 1, 1) := by decide +kernel
theorem dX1_isOverLimit_17 : decode cX1_isOverLimit 17 = .ok (.invokevirtual 66, 3) := by decide +kernel
theorem dX1_isOverLimit_20 : decode cX1_isOverLimit 20 = .ok (.if_icmp .le 7, 3) := by decide +kernel
theorem dX1_isOverLimit_23 : decode cX1_isOverLimit 23 = .ok (.iconst 1, 1) := by decide +kernel
theorem dX1_isOverLimit_24 : decode cX1_isOverLimit 24 = .ok (.goto 4, 3) := by decide +kernel
theorem dX1_isOverLimit_27 : decode cX1_isOverLimit 27 = .ok (.iconst 0, 1) := by decide +kernel
theorem dX1_isOverLimit_28 : decode cX1_isOverLimit 28 = .ok (.ireturn, 1) := by decide +kernel
theorem dX1_stallFact_0 : decode cX1_stallFact 0 = .ok (.iload_n 2, 1) := by decide +kernel
theorem dX1_stallFact_1 : decode cX1_stallFact 1 = .ok (.tableswitch 82 6 11 #[39, 46, 53, 60, 69, 76], 39) := by decide +kernel
theorem dX1_stallFact_40 : decode cX1_stallFact 40 = .ok (.aload_n 0, 1) := by decide +kernel
theorem dX1_stallFact_41 : decode cX1_stallFact 41 = .ok (.getfield 22, 3) := by decide +kernel
theorem dX1_stallFact_44 : decode cX1_stallFact 44 = .ok (.iload_n 1, 1) := by decide +kernel
theorem dX1_stallFact_45 : decode cX1_stallFact 45 = .ok (.iaload, 1) := by decide +kernel
theorem dX1_stallFact_46 : decode cX1_stallFact 46 = .ok (.ireturn, 1) := by decide +kernel
theorem dX1_stallFact_47 : decode cX1_stallFact 47 = .ok (.aload_n 0, 1) := by decide +kernel
theorem dX1_stallFact_48 : decode cX1_stallFact 48 = .ok (.getfield 26, 3) := by decide +kernel
theorem dX1_stallFact_51 : decode cX1_stallFact 51 = .ok (.iload_n 1, 1) := by decide +kernel
theorem dX1_stallFact_52 : decode cX1_stallFact 52 = .ok (.iaload, 1) := by decide +kernel
theorem dX1_stallFact_53 : decode cX1_stallFact 53 = .ok (.ireturn, 1) := by decide +kernel
theorem dX1_stallFact_54 : decode cX1_stallFact 54 = .ok (.aload_n 0, 1) := by decide +kernel
theorem dX1_stallFact_55 : decode cX1_stallFact 55 = .ok (.getfield 29, 3) := by decide +kernel
theorem dX1_stallFact_58 : decode cX1_stallFact 58 = .ok (.iload_n 1, 1) := by decide +kernel
theorem dX1_stallFact_59 : decode cX1_stallFact 59 = .ok (.iaload, 1) := by decide +kernel
theorem dX1_stallFact_60 : decode cX1_stallFact 60 = .ok (.ireturn, 1) := by decide +kernel
theorem dX1_stallFact_61 : decode cX1_stallFact 61 = .ok (.aload_n 0, 1) := by decide +kernel
theorem dX1_stallFact_62 : decode cX1_stallFact 62 = .ok (.getfield 18, 3) := by decide +kernel
theorem dX1_stallFact_65 : decode cX1_stallFact 65 = .ok (.iload_n 1, 1) := by decide +kernel
theorem dX1_stallFact_66 : decode cX1_stallFact 66 = .ok (.invokevirtual 69, 3) := by decide +kernel
theorem dX1_stallFact_69 : decode cX1_stallFact 69 = .ok (.ireturn, 1) := by decide +kernel
theorem dX1_stallFact_70 : decode cX1_stallFact 70 = .ok (.aload_n 0, 1) := by decide +kernel
theorem dX1_stallFact_71 : decode cX1_stallFact 71 = .ok (.getfield 32, 3) := by decide +kernel
theorem dX1_stallFact_74 : decode cX1_stallFact 74 = .ok (.iload_n 1, 1) := by decide +kernel
theorem dX1_stallFact_75 : decode cX1_stallFact 75 = .ok (.iaload, 1) := by decide +kernel
theorem dX1_stallFact_76 : decode cX1_stallFact 76 = .ok (.ireturn, 1) := by decide +kernel
theorem dX1_stallFact_77 : decode cX1_stallFact 77 = .ok (.aload_n 0, 1) := by decide +kernel
theorem dX1_stallFact_78 : decode cX1_stallFact 78 = .ok (.iload_n 1, 1) := by decide +kernel
theorem dX1_stallFact_79 : decode cX1_stallFact 79 = .ok (.invokevirtual 72, 3) := by decide +kernel
theorem dX1_stallFact_82 : decode cX1_stallFact 82 = .ok (.ireturn, 1) := by decide +kernel
theorem dX1_stallFact_83 : decode cX1_stallFact 83 = .ok (.iconst (-1), 1) := by decide +kernel
theorem dX1_stallFact_84 : decode cX1_stallFact 84 = .ok (.ireturn, 1) := by decide +kernel
theorem dX1_billOf_0 : decode cX1_billOf 0 = .ok (.aload_n 0, 1) := by decide +kernel
theorem dX1_billOf_1 : decode cX1_billOf 1 = .ok (.getfield 22, 3) := by decide +kernel
theorem dX1_billOf_4 : decode cX1_billOf 4 = .ok (.iload_n 1, 1) := by decide +kernel
theorem dX1_billOf_5 : decode cX1_billOf 5 = .ok (.iaload, 1) := by decide +kernel
theorem dX1_billOf_6 : decode cX1_billOf 6 = .ok (.bipush (-4), 2) := by decide +kernel
theorem dX1_billOf_8 : decode cX1_billOf 8 = .ok (.if_icmp .ne 5, 3) := by decide +kernel
theorem dX1_billOf_11 : decode cX1_billOf 11 = .ok (.iconst 0, 1) := by decide +kernel
theorem dX1_billOf_12 : decode cX1_billOf 12 = .ok (.ireturn, 1) := by decide +kernel
theorem dX1_billOf_13 : decode cX1_billOf 13 = .ok (.aload_n 0, 1) := by decide +kernel
theorem dX1_billOf_14 : decode cX1_billOf 14 = .ok (.getfield 9, 3) := by decide +kernel
theorem dX1_billOf_17 : decode cX1_billOf 17 = .ok (.aload_n 0, 1) := by decide +kernel
theorem dX1_billOf_18 : decode cX1_billOf 18 = .ok (.getfield 22, 3) := by decide +kernel
theorem dX1_billOf_21 : decode cX1_billOf 21 = .ok (.iload_n 1, 1) := by decide +kernel
theorem dX1_billOf_22 : decode cX1_billOf 22 = .ok (.iaload, 1) := by decide +kernel
theorem dX1_billOf_23 : decode cX1_billOf 23 = .ok (.invokevirtual 75, 3) := by decide +kernel
theorem dX1_billOf_26 : decode cX1_billOf 26 = .ok (.aload_n 0, 1) := by decide +kernel
theorem dX1_billOf_27 : decode cX1_billOf 27 = .ok (.getfield 29, 3) := by decide +kernel
theorem dX1_billOf_30 : decode cX1_billOf 30 = .ok (.iload_n 1, 1) := by decide +kernel
theorem dX1_billOf_31 : decode cX1_billOf 31 = .ok (.iaload, 1) := by decide +kernel
theorem dX1_billOf_32 : decode cX1_billOf 32 = .ok (.aload_n 0, 1) := by decide +kernel
theorem dX1_billOf_33 : decode cX1_billOf 33 = .ok (.getfield 9, 3) := by decide +kernel
theorem dX1_billOf_36 : decode cX1_billOf 36 = .ok (.iconst 1, 1) := by decide +kernel
theorem dX1_billOf_37 : decode cX1_billOf 37 = .ok (.invokevirtual 78, 3) := by decide +kernel
theorem dX1_billOf_40 : decode cX1_billOf 40 = .ok (.imul, 1) := by decide +kernel
theorem dX1_billOf_41 : decode cX1_billOf 41 = .ok (.bipush 100, 2) := by decide +kernel
theorem dX1_billOf_43 : decode cX1_billOf 43 = .ok (.idiv, 1) := by decide +kernel
theorem dX1_billOf_44 : decode cX1_billOf 44 = .ok (.iadd, 1) := by decide +kernel
theorem dX1_billOf_45 : decode cX1_billOf 45 = .ok (.ireturn, 1) := by decide +kernel
theorem dX1_allTook_0 : decode cX1_allTook 0 = .ok (.iconst 0, 1) := by decide +kernel
theorem dX1_allTook_1 : decode cX1_allTook 1 = .ok (.istore_n 1, 1) := by decide +kernel
theorem dX1_allTook_2 : decode cX1_allTook 2 = .ok (.iconst 0, 1) := by decide +kernel
theorem dX1_allTook_3 : decode cX1_allTook 3 = .ok (.istore_n 2, 1) := by decide +kernel
theorem dX1_allTook_4 : decode cX1_allTook 4 = .ok (.iload_n 2, 1) := by decide +kernel
theorem dX1_allTook_5 : decode cX1_allTook 5 = .ok (.iconst 5, 1) := by decide +kernel
theorem dX1_allTook_6 : decode cX1_allTook 6 = .ok (.if_icmp .ge 18, 3) := by decide +kernel
theorem dX1_allTook_9 : decode cX1_allTook 9 = .ok (.iload_n 1, 1) := by decide +kernel
theorem dX1_allTook_10 : decode cX1_allTook 10 = .ok (.aload_n 0, 1) := by decide +kernel
theorem dX1_allTook_11 : decode cX1_allTook 11 = .ok (.getfield 29, 3) := by decide +kernel
theorem dX1_allTook_14 : decode cX1_allTook 14 = .ok (.iload_n 2, 1) := by decide +kernel
theorem dX1_allTook_15 : decode cX1_allTook 15 = .ok (.iaload, 1) := by decide +kernel
theorem dX1_allTook_16 : decode cX1_allTook 16 = .ok (.iadd, 1) := by decide +kernel
theorem dX1_allTook_17 : decode cX1_allTook 17 = .ok (.istore_n 1, 1) := by decide +kernel
theorem dX1_allTook_18 : decode cX1_allTook 18 = .ok (.iinc 2 1, 3) := by decide +kernel
theorem dX1_allTook_21 : decode cX1_allTook 21 = .ok (.goto (-17), 3) := by decide +kernel
theorem dX1_allTook_24 : decode cX1_allTook 24 = .ok (.iload_n 1, 1) := by decide +kernel
theorem dX1_allTook_25 : decode cX1_allTook 25 = .ok (.ireturn, 1) := by decide +kernel
theorem dX1_allBills_0 : decode cX1_allBills 0 = .ok (.iconst 0, 1) := by decide +kernel
theorem dX1_allBills_1 : decode cX1_allBills 1 = .ok (.istore_n 1, 1) := by decide +kernel
theorem dX1_allBills_2 : decode cX1_allBills 2 = .ok (.iconst 0, 1) := by decide +kernel
theorem dX1_allBills_3 : decode cX1_allBills 3 = .ok (.istore_n 2, 1) := by decide +kernel
theorem dX1_allBills_4 : decode cX1_allBills 4 = .ok (.iload_n 2, 1) := by decide +kernel
theorem dX1_allBills_5 : decode cX1_allBills 5 = .ok (.iconst 5, 1) := by decide +kernel
theorem dX1_allBills_6 : decode cX1_allBills 6 = .ok (.if_icmp .ge 17, 3) := by decide +kernel
theorem dX1_allBills_9 : decode cX1_allBills 9 = .ok (.iload_n 1, 1) := by decide +kernel
theorem dX1_allBills_10 : decode cX1_allBills 10 = .ok (.aload_n 0, 1) := by decide +kernel
theorem dX1_allBills_11 : decode cX1_allBills 11 = .ok (.iload_n 2, 1) := by decide +kernel
theorem dX1_allBills_12 : decode cX1_allBills 12 = .ok (.invokevirtual 72, 3) := by decide +kernel
theorem dX1_allBills_15 : decode cX1_allBills 15 = .ok (.iadd, 1) := by decide +kernel
theorem dX1_allBills_16 : decode cX1_allBills 16 = .ok (.istore_n 1, 1) := by decide +kernel
theorem dX1_allBills_17 : decode cX1_allBills 17 = .ok (.iinc 2 1, 3) := by decide +kernel
theorem dX1_allBills_20 : decode cX1_allBills 20 = .ok (.goto (-16), 3) := by decide +kernel
theorem dX1_allBills_23 : decode cX1_allBills 23 = .ok (.iload_n 1, 1) := by decide +kernel
theorem dX1_allBills_24 : decode cX1_allBills 24 = .ok (.ireturn, 1) := by decide +kernel
theorem dX1_passTick_0 : decode cX1_passTick 0 = .ok (.aload_n 0, 1) := by decide +kernel
theorem dX1_passTick_1 : decode cX1_passTick 1 = .ok (.invokevirtual 81, 3) := by decide +kernel
theorem dX1_passTick_4 : decode cX1_passTick 4 = .ok (.istore_n 1, 1) := by decide +kernel
theorem dX1_passTick_5 : decode cX1_passTick 5 = .ok (.aload_n 0, 1) := by decide +kernel
theorem dX1_passTick_6 : decode cX1_passTick 6 = .ok (.invokevirtual 85, 3) := by decide +kernel
theorem dX1_passTick_9 : decode cX1_passTick 9 = .ok (.aload_n 0, 1) := by decide +kernel
theorem dX1_passTick_10 : decode cX1_passTick 10 = .ok (.getfield 18, 3) := by decide +kernel
theorem dX1_passTick_13 : decode cX1_passTick 13 = .ok (.invokevirtual 88, 3) := by decide +kernel
theorem dX1_passTick_16 : decode cX1_passTick 16 = .ok (.aload_n 0, 1) := by decide +kernel
theorem dX1_passTick_17 : decode cX1_passTick 17 = .ok (.invokevirtual 91, 3) := by decide +kernel
theorem dX1_passTick_20 : decode cX1_passTick 20 = .ok (.aload_n 0, 1) := by decide +kernel
theorem dX1_passTick_21 : decode cX1_passTick 21 = .ok (.dup, 1) := by decide +kernel
theorem dX1_passTick_22 : decode cX1_passTick 22 = .ok (.getfield 41, 3) := by decide +kernel
theorem dX1_passTick_25 : decode cX1_passTick 25 = .ok (.iconst 1, 1) := by decide +kernel
theorem dX1_passTick_26 : decode cX1_passTick 26 = .ok (.iadd, 1) := by decide +kernel
theorem dX1_passTick_27 : decode cX1_passTick 27 = .ok (.putfield 41, 3) := by decide +kernel
theorem dX1_passTick_30 : decode cX1_passTick 30 = .ok (.iload_n 1, 1) := by decide +kernel
theorem dX1_passTick_31 : decode cX1_passTick 31 = .ok (.ireturn, 1) := by decide +kernel
theorem dX1_works_0 : decode cX1_works 0 = .ok (.aload_n 0, 1) := by decide +kernel
theorem dX1_works_1 : decode cX1_works 1 = .ok (.getfield 22, 3) := by decide +kernel
theorem dX1_works_4 : decode cX1_works 4 = .ok (.iload_n 1, 1) := by decide +kernel
theorem dX1_works_5 : decode cX1_works 5 = .ok (.iaload, 1) := by decide +kernel
theorem dX1_works_6 : decode cX1_works 6 = .ok (.bipush (-4), 2) := by decide +kernel
theorem dX1_works_8 : decode cX1_works 8 = .ok (.if_icmp .eq 28, 3) := by decide +kernel
theorem dX1_works_11 : decode cX1_works 11 = .ok (.aload_n 0, 1) := by decide +kernel
theorem dX1_works_12 : decode cX1_works 12 = .ok (.getfield 38, 3) := by decide +kernel
theorem dX1_works_15 : decode cX1_works 15 = .ok (.aload_n 0, 1) := by decide +kernel
theorem dX1_works_16 : decode cX1_works 16 = .ok (.getfield 9, 3) := by decide +kernel
theorem dX1_works_19 : decode cX1_works 19 = .ok (.aload_n 0, 1) := by decide +kernel
theorem dX1_works_20 : decode cX1_works 20 = .ok (.getfield 22, 3) := by decide +kernel
theorem dX1_works_23 : decode cX1_works 23 = .ok (.iload_n 1, 1) := by decide +kernel
theorem dX1_works_24 : decode cX1_works 24 = .ok (.iaload, 1) := by decide +kernel
theorem dX1_works_25 : decode cX1_works 25 = .ok (.invokevirtual 54, 3) := by decide +kernel
theorem dX1_works_28 : decode cX1_works 28 = .ok (.iaload, 1) := by decide +kernel
theorem dX1_works_29 : decode cX1_works 29 = .ok (.ifCond .ne 7, 3) := by decide +kernel
theorem dX1_works_32 : decode cX1_works 32 = .ok (.iconst 1, 1) := by decide +kernel
theorem dX1_works_33 : decode cX1_works 33 = .ok (.goto 4, 3) := by decide +kernel
theorem dX1_works_36 : decode cX1_works 36 = .ok (.iconst 0, 1) := by decide +kernel
theorem dX1_works_37 : decode cX1_works 37 = .ok (.ireturn, 1) := by decide +kernel
theorem dX1_cookOn_0 : decode cX1_cookOn 0 = .ok (.iconst 0, 1) := by decide +kernel
theorem dX1_cookOn_1 : decode cX1_cookOn 1 = .ok (.istore_n 1, 1) := by decide +kernel
theorem dX1_cookOn_2 : decode cX1_cookOn 2 = .ok (.iconst 0, 1) := by decide +kernel
theorem dX1_cookOn_3 : decode cX1_cookOn 3 = .ok (.istore_n 2, 1) := by decide +kernel
theorem dX1_cookOn_4 : decode cX1_cookOn 4 = .ok (.iload_n 2, 1) := by decide +kernel
theorem dX1_cookOn_5 : decode cX1_cookOn 5 = .ok (.iconst 5, 1) := by decide +kernel
theorem dX1_cookOn_6 : decode cX1_cookOn 6 = .ok (.if_icmp .ge 53, 3) := by decide +kernel
theorem dX1_cookOn_9 : decode cX1_cookOn 9 = .ok (.aload_n 0, 1) := by decide +kernel
theorem dX1_cookOn_10 : decode cX1_cookOn 10 = .ok (.getfield 32, 3) := by decide +kernel
theorem dX1_cookOn_13 : decode cX1_cookOn 13 = .ok (.iload_n 2, 1) := by decide +kernel
theorem dX1_cookOn_14 : decode cX1_cookOn 14 = .ok (.iaload, 1) := by decide +kernel
theorem dX1_cookOn_15 : decode cX1_cookOn 15 = .ok (.ifCond .le 38, 3) := by decide +kernel
theorem dX1_cookOn_18 : decode cX1_cookOn 18 = .ok (.aload_n 0, 1) := by decide +kernel
theorem dX1_cookOn_19 : decode cX1_cookOn 19 = .ok (.iload_n 2, 1) := by decide +kernel
theorem dX1_cookOn_20 : decode cX1_cookOn 20 = .ok (.invokevirtual 94, 3) := by decide +kernel
theorem dX1_cookOn_23 : decode cX1_cookOn 23 = .ok (.ifCond .eq 30, 3) := by decide +kernel
theorem dX1_cookOn_26 : decode cX1_cookOn 26 = .ok (.aload_n 0, 1) := by decide +kernel
theorem dX1_cookOn_27 : decode cX1_cookOn 27 = .ok (.getfield 32, 3) := by decide +kernel
theorem dX1_cookOn_30 : decode cX1_cookOn 30 = .ok (.iload_n 2, 1) := by decide +kernel
theorem dX1_cookOn_31 : decode cX1_cookOn 31 = .ok (.dup2, 1) := by decide +kernel
theorem dX1_cookOn_32 : decode cX1_cookOn 32 = .ok (.iaload, 1) := by decide +kernel
theorem dX1_cookOn_33 : decode cX1_cookOn 33 = .ok (.iconst 1, 1) := by decide +kernel
theorem dX1_cookOn_34 : decode cX1_cookOn 34 = .ok (.isub, 1) := by decide +kernel
theorem dX1_cookOn_35 : decode cX1_cookOn 35 = .ok (.iastore, 1) := by decide +kernel
theorem dX1_cookOn_36 : decode cX1_cookOn 36 = .ok (.aload_n 0, 1) := by decide +kernel
theorem dX1_cookOn_37 : decode cX1_cookOn 37 = .ok (.getfield 32, 3) := by decide +kernel
theorem dX1_cookOn_40 : decode cX1_cookOn 40 = .ok (.iload_n 2, 1) := by decide +kernel
theorem dX1_cookOn_41 : decode cX1_cookOn 41 = .ok (.iaload, 1) := by decide +kernel
theorem dX1_cookOn_42 : decode cX1_cookOn 42 = .ok (.ifCond .ne 11, 3) := by decide +kernel
theorem dX1_cookOn_45 : decode cX1_cookOn 45 = .ok (.aload_n 0, 1) := by decide +kernel
theorem dX1_cookOn_46 : decode cX1_cookOn 46 = .ok (.iload_n 2, 1) := by decide +kernel
theorem dX1_cookOn_47 : decode cX1_cookOn 47 = .ok (.invokevirtual 98, 3) := by decide +kernel
theorem dX1_cookOn_50 : decode cX1_cookOn 50 = .ok (.iinc 1 1, 3) := by decide +kernel
theorem dX1_cookOn_53 : decode cX1_cookOn 53 = .ok (.iinc 2 1, 3) := by decide +kernel
theorem dX1_cookOn_56 : decode cX1_cookOn 56 = .ok (.goto (-52), 3) := by decide +kernel
theorem dX1_cookOn_59 : decode cX1_cookOn 59 = .ok (.iload_n 1, 1) := by decide +kernel
theorem dX1_cookOn_60 : decode cX1_cookOn 60 = .ok (.ireturn, 1) := by decide +kernel
theorem dX1_sell_0 : decode cX1_sell 0 = .ok (.aload_n 0, 1) := by decide +kernel
theorem dX1_sell_1 : decode cX1_sell 1 = .ok (.getfield 18, 3) := by decide +kernel
theorem dX1_sell_4 : decode cX1_sell 4 = .ok (.aload_n 0, 1) := by decide +kernel
theorem dX1_sell_5 : decode cX1_sell 5 = .ok (.getfield 18, 3) := by decide +kernel
theorem dX1_sell_8 : decode cX1_sell 8 = .ok (.iload_n 1, 1) := by decide +kernel
theorem dX1_sell_9 : decode cX1_sell 9 = .ok (.iconst 2, 1) := by decide +kernel
theorem dX1_sell_10 : decode cX1_sell 10 = .ok (.invokevirtual 102, 3) := by decide +kernel
theorem dX1_sell_13 : decode cX1_sell 13 = .ok (.aload_n 0, 1) := by decide +kernel
theorem dX1_sell_14 : decode cX1_sell 14 = .ok (.getfield 41, 3) := by decide +kernel
theorem dX1_sell_17 : decode cX1_sell 17 = .ok (.invokevirtual 105, 3) := by decide +kernel
theorem dX1_sell_20 : decode cX1_sell 20 = .ok (.aload_n 0, 1) := by decide +kernel
theorem dX1_sell_21 : decode cX1_sell 21 = .ok (.getfield 26, 3) := by decide +kernel
theorem dX1_sell_24 : decode cX1_sell 24 = .ok (.iload_n 1, 1) := by decide +kernel
theorem dX1_sell_25 : decode cX1_sell 25 = .ok (.dup2, 1) := by decide +kernel
theorem dX1_sell_26 : decode cX1_sell 26 = .ok (.iaload, 1) := by decide +kernel
theorem dX1_sell_27 : decode cX1_sell 27 = .ok (.iconst 1, 1) := by decide +kernel
theorem dX1_sell_28 : decode cX1_sell 28 = .ok (.iadd, 1) := by decide +kernel
theorem dX1_sell_29 : decode cX1_sell 29 = .ok (.iastore, 1) := by decide +kernel
theorem dX1_sell_30 : decode cX1_sell 30 = .ok (.aload_n 0, 1) := by decide +kernel
theorem dX1_sell_31 : decode cX1_sell 31 = .ok (.getfield 29, 3) := by decide +kernel
theorem dX1_sell_34 : decode cX1_sell 34 = .ok (.iload_n 1, 1) := by decide +kernel
theorem dX1_sell_35 : decode cX1_sell 35 = .ok (.dup2, 1) := by decide +kernel
theorem dX1_sell_36 : decode cX1_sell 36 = .ok (.iaload, 1) := by decide +kernel
theorem dX1_sell_37 : decode cX1_sell 37 = .ok (.aload_n 0, 1) := by decide +kernel
theorem dX1_sell_38 : decode cX1_sell 38 = .ok (.getfield 9, 3) := by decide +kernel
theorem dX1_sell_41 : decode cX1_sell 41 = .ok (.iload_n 1, 1) := by decide +kernel
theorem dX1_sell_42 : decode cX1_sell 42 = .ok (.iconst 4, 1) := by decide +kernel
theorem dX1_sell_43 : decode cX1_sell 43 = .ok (.invokevirtual 59, 3) := by decide +kernel
theorem dX1_sell_46 : decode cX1_sell 46 = .ok (.iadd, 1) := by decide +kernel
theorem dX1_sell_47 : decode cX1_sell 47 = .ok (.iastore, 1) := by decide +kernel
theorem dX1_sell_48 : decode cX1_sell 48 = .ok (.return_, 1) := by decide +kernel
theorem dX1_startCooking_0 : decode cX1_startCooking 0 = .ok (.iconst 0, 1) := by decide +kernel
theorem dX1_startCooking_1 : decode cX1_startCooking 1 = .ok (.istore_n 1, 1) := by decide +kernel
theorem dX1_startCooking_2 : decode cX1_startCooking 2 = .ok (.iload_n 1, 1) := by decide +kernel
theorem dX1_startCooking_3 : decode cX1_startCooking 3 = .ok (.iconst 5, 1) := by decide +kernel
theorem dX1_startCooking_4 : decode cX1_startCooking 4 = .ok (.if_icmp .ge 67, 3) := by decide +kernel
theorem dX1_startCooking_7 : decode cX1_startCooking 7 = .ok (.aload_n 0, 1) := by decide +kernel
theorem dX1_startCooking_8 : decode cX1_startCooking 8 = .ok (.getfield 32, 3) := by decide +kernel
theorem dX1_startCooking_11 : decode cX1_startCooking 11 = .ok (.iload_n 1, 1) := by decide +kernel
theorem dX1_startCooking_12 : decode cX1_startCooking 12 = .ok (.iaload, 1) := by decide +kernel
theorem dX1_startCooking_13 : decode cX1_startCooking 13 = .ok (.ifCond .ne 52, 3) := by decide +kernel
theorem dX1_startCooking_16 : decode cX1_startCooking 16 = .ok (.aload_n 0, 1) := by decide +kernel
theorem dX1_startCooking_17 : decode cX1_startCooking 17 = .ok (.iload_n 1, 1) := by decide +kernel
theorem dX1_startCooking_18 : decode cX1_startCooking 18 = .ok (.invokevirtual 94, 3) := by decide +kernel
theorem dX1_startCooking_21 : decode cX1_startCooking 21 = .ok (.ifCond .eq 44, 3) := by decide +kernel
theorem dX1_startCooking_24 : decode cX1_startCooking 24 = .ok (.aload_n 0, 1) := by decide +kernel
theorem dX1_startCooking_25 : decode cX1_startCooking 25 = .ok (.getfield 18, 3) := by decide +kernel
theorem dX1_startCooking_28 : decode cX1_startCooking 28 = .ok (.iload_n 1, 1) := by decide +kernel
theorem dX1_startCooking_29 : decode cX1_startCooking 29 = .ok (.iconst 1, 1) := by decide +kernel
theorem dX1_startCooking_30 : decode cX1_startCooking 30 = .ok (.invokevirtual 102, 3) := by decide +kernel
theorem dX1_startCooking_33 : decode cX1_startCooking 33 = .ok (.istore_n 2, 1) := by decide +kernel
theorem dX1_startCooking_34 : decode cX1_startCooking 34 = .ok (.iload_n 2, 1) := by decide +kernel
theorem dX1_startCooking_35 : decode cX1_startCooking 35 = .ok (.bipush (-4), 2) := by decide +kernel
theorem dX1_startCooking_37 : decode cX1_startCooking 37 = .ok (.if_icmp .eq 28, 3) := by decide +kernel
theorem dX1_startCooking_40 : decode cX1_startCooking 40 = .ok (.aload_n 0, 1) := by decide +kernel
theorem dX1_startCooking_41 : decode cX1_startCooking 41 = .ok (.getfield 18, 3) := by decide +kernel
theorem dX1_startCooking_44 : decode cX1_startCooking 44 = .ok (.getfield 109, 3) := by decide +kernel
theorem dX1_startCooking_47 : decode cX1_startCooking 47 = .ok (.iload_n 2, 1) := by decide +kernel
theorem dX1_startCooking_48 : decode cX1_startCooking 48 = .ok (.iconst 2, 1) := by decide +kernel
theorem dX1_startCooking_49 : decode cX1_startCooking 49 = .ok (.iastore, 1) := by decide +kernel
theorem dX1_startCooking_50 : decode cX1_startCooking 50 = .ok (.aload_n 0, 1) := by decide +kernel
theorem dX1_startCooking_51 : decode cX1_startCooking 51 = .ok (.getfield 32, 3) := by decide +kernel
theorem dX1_startCooking_54 : decode cX1_startCooking 54 = .ok (.iload_n 1, 1) := by decide +kernel
theorem dX1_startCooking_55 : decode cX1_startCooking 55 = .ok (.aload_n 0, 1) := by decide +kernel
theorem dX1_startCooking_56 : decode cX1_startCooking 56 = .ok (.getfield 9, 3) := by decide +kernel
theorem dX1_startCooking_59 : decode cX1_startCooking 59 = .ok (.iload_n 1, 1) := by decide +kernel
theorem dX1_startCooking_60 : decode cX1_startCooking 60 = .ok (.iconst 3, 1) := by decide +kernel
theorem dX1_startCooking_61 : decode cX1_startCooking 61 = .ok (.invokevirtual 59, 3) := by decide +kernel
theorem dX1_startCooking_64 : decode cX1_startCooking 64 = .ok (.iastore, 1) := by decide +kernel
theorem dX1_startCooking_65 : decode cX1_startCooking 65 = .ok (.iinc 1 1, 3) := by decide +kernel
theorem dX1_startCooking_68 : decode cX1_startCooking 68 = .ok (.goto (-66), 3) := by decide +kernel
theorem dX1_startCooking_71 : decode cX1_startCooking 71 = .ok (.return_, 1) := by decide +kernel
theorem dX1_walkOn_0 : decode cX1_walkOn 0 = .ok (.iconst 0, 1) := by decide +kernel
theorem dX1_walkOn_1 : decode cX1_walkOn 1 = .ok (.istore_n 1, 1) := by decide +kernel
theorem dX1_walkOn_2 : decode cX1_walkOn 2 = .ok (.iload_n 1, 1) := by decide +kernel
theorem dX1_walkOn_3 : decode cX1_walkOn 3 = .ok (.aload_n 0, 1) := by decide +kernel
theorem dX1_walkOn_4 : decode cX1_walkOn 4 = .ok (.getfield 18, 3) := by decide +kernel
theorem dX1_walkOn_7 : decode cX1_walkOn 7 = .ok (.getfield 45, 3) := by decide +kernel
theorem dX1_walkOn_10 : decode cX1_walkOn 10 = .ok (.if_icmp .ge 60, 3) := by decide +kernel
theorem dX1_walkOn_13 : decode cX1_walkOn 13 = .ok (.aload_n 0, 1) := by decide +kernel
theorem dX1_walkOn_14 : decode cX1_walkOn 14 = .ok (.getfield 18, 3) := by decide +kernel
theorem dX1_walkOn_17 : decode cX1_walkOn 17 = .ok (.getfield 109, 3) := by decide +kernel
theorem dX1_walkOn_20 : decode cX1_walkOn 20 = .ok (.iload_n 1, 1) := by decide +kernel
theorem dX1_walkOn_21 : decode cX1_walkOn 21 = .ok (.iaload, 1) := by decide +kernel
theorem dX1_walkOn_22 : decode cX1_walkOn 22 = .ok (.ifCond .ne 42, 3) := by decide +kernel
theorem dX1_walkOn_25 : decode cX1_walkOn 25 = .ok (.aload_n 0, 1) := by decide +kernel
theorem dX1_walkOn_26 : decode cX1_walkOn 26 = .ok (.iload_n 1, 1) := by decide +kernel
theorem dX1_walkOn_27 : decode cX1_walkOn 27 = .ok (.invokevirtual 112, 3) := by decide +kernel
theorem dX1_walkOn_30 : decode cX1_walkOn 30 = .ok (.istore_n 2, 1) := by decide +kernel
theorem dX1_walkOn_31 : decode cX1_walkOn 31 = .ok (.iload_n 2, 1) := by decide +kernel
theorem dX1_walkOn_32 : decode cX1_walkOn 32 = .ok (.bipush (-4), 2) := by decide +kernel
theorem dX1_walkOn_34 : decode cX1_walkOn 34 = .ok (.if_icmp .eq 15, 3) := by decide +kernel
theorem dX1_walkOn_37 : decode cX1_walkOn 37 = .ok (.aload_n 0, 1) := by decide +kernel
theorem dX1_walkOn_38 : decode cX1_walkOn 38 = .ok (.getfield 18, 3) := by decide +kernel
theorem dX1_walkOn_41 : decode cX1_walkOn 41 = .ok (.iload_n 1, 1) := by decide +kernel
theorem dX1_walkOn_42 : decode cX1_walkOn 42 = .ok (.iload_n 2, 1) := by decide +kernel
theorem dX1_walkOn_43 : decode cX1_walkOn 43 = .ok (.invokevirtual 115, 3) := by decide +kernel
theorem dX1_walkOn_46 : decode cX1_walkOn 46 = .ok (.goto 18, 3) := by decide +kernel
theorem dX1_walkOn_49 : decode cX1_walkOn 49 = .ok (.aload_n 0, 1) := by decide +kernel
theorem dX1_walkOn_50 : decode cX1_walkOn 50 = .ok (.getfield 18, 3) := by decide +kernel
theorem dX1_walkOn_53 : decode cX1_walkOn 53 = .ok (.iload_n 1, 1) := by decide +kernel
theorem dX1_walkOn_54 : decode cX1_walkOn 54 = .ok (.aload_n 0, 1) := by decide +kernel
theorem dX1_walkOn_55 : decode cX1_walkOn 55 = .ok (.getfield 9, 3) := by decide +kernel
theorem dX1_walkOn_58 : decode cX1_walkOn 58 = .ok (.getfield 118, 3) := by decide +kernel
theorem dX1_walkOn_61 : decode cX1_walkOn 61 = .ok (.invokevirtual 121, 3) := by decide +kernel
theorem dX1_walkOn_64 : decode cX1_walkOn 64 = .ok (.iinc 1 1, 3) := by decide +kernel
theorem dX1_walkOn_67 : decode cX1_walkOn 67 = .ok (.goto (-65), 3) := by decide +kernel
theorem dX1_walkOn_70 : decode cX1_walkOn 70 = .ok (.return_, 1) := by decide +kernel
theorem dX1_stallFor_0 : decode cX1_stallFor 0 = .ok (.iconst 0, 1) := by decide +kernel
theorem dX1_stallFor_1 : decode cX1_stallFor 1 = .ok (.istore_n 2, 1) := by decide +kernel
theorem dX1_stallFor_2 : decode cX1_stallFor 2 = .ok (.iload_n 2, 1) := by decide +kernel
theorem dX1_stallFor_3 : decode cX1_stallFor 3 = .ok (.iconst 5, 1) := by decide +kernel
theorem dX1_stallFor_4 : decode cX1_stallFor 4 = .ok (.if_icmp .ge 70, 3) := by decide +kernel
theorem dX1_stallFor_7 : decode cX1_stallFor 7 = .ok (.aload_n 0, 1) := by decide +kernel
theorem dX1_stallFor_8 : decode cX1_stallFor 8 = .ok (.getfield 22, 3) := by decide +kernel
theorem dX1_stallFor_11 : decode cX1_stallFor 11 = .ok (.iload_n 2, 1) := by decide +kernel
theorem dX1_stallFor_12 : decode cX1_stallFor 12 = .ok (.iaload, 1) := by decide +kernel
theorem dX1_stallFor_13 : decode cX1_stallFor 13 = .ok (.aload_n 0, 1) := by decide +kernel
theorem dX1_stallFor_14 : decode cX1_stallFor 14 = .ok (.getfield 18, 3) := by decide +kernel
theorem dX1_stallFor_17 : decode cX1_stallFor 17 = .ok (.getfield 124, 3) := by decide +kernel
theorem dX1_stallFor_20 : decode cX1_stallFor 20 = .ok (.iload_n 1, 1) := by decide +kernel
theorem dX1_stallFor_21 : decode cX1_stallFor 21 = .ok (.iaload, 1) := by decide +kernel
theorem dX1_stallFor_22 : decode cX1_stallFor 22 = .ok (.if_icmp .ne 46, 3) := by decide +kernel
theorem dX1_stallFor_25 : decode cX1_stallFor 25 = .ok (.aload_n 0, 1) := by decide +kernel
theorem dX1_stallFor_26 : decode cX1_stallFor 26 = .ok (.iload_n 2, 1) := by decide +kernel
theorem dX1_stallFor_27 : decode cX1_stallFor 27 = .ok (.invokevirtual 94, 3) := by decide +kernel
theorem dX1_stallFor_30 : decode cX1_stallFor 30 = .ok (.ifCond .eq 38, 3) := by decide +kernel
theorem dX1_stallFor_33 : decode cX1_stallFor 33 = .ok (.aload_n 0, 1) := by decide +kernel
theorem dX1_stallFor_34 : decode cX1_stallFor 34 = .ok (.getfield 9, 3) := by decide +kernel
theorem dX1_stallFor_37 : decode cX1_stallFor 37 = .ok (.iload_n 2, 1) := by decide +kernel
theorem dX1_stallFor_38 : decode cX1_stallFor 38 = .ok (.iconst 0, 1) := by decide +kernel
theorem dX1_stallFor_39 : decode cX1_stallFor 39 = .ok (.invokevirtual 59, 3) := by decide +kernel
theorem dX1_stallFor_42 : decode cX1_stallFor 42 = .ok (.aload_n 0, 1) := by decide +kernel
theorem dX1_stallFor_43 : decode cX1_stallFor 43 = .ok (.getfield 18, 3) := by decide +kernel
theorem dX1_stallFor_46 : decode cX1_stallFor 46 = .ok (.getfield 127, 3) := by decide +kernel
theorem dX1_stallFor_49 : decode cX1_stallFor 49 = .ok (.iload_n 1, 1) := by decide +kernel
theorem dX1_stallFor_50 : decode cX1_stallFor 50 = .ok (.iaload, 1) := by decide +kernel
theorem dX1_stallFor_51 : decode cX1_stallFor 51 = .ok (.if_icmp .ne 17, 3) := by decide +kernel
theorem dX1_stallFor_54 : decode cX1_stallFor 54 = .ok (.aload_n 0, 1) := by decide +kernel
theorem dX1_stallFor_55 : decode cX1_stallFor 55 = .ok (.getfield 18, 3) := by decide +kernel
theorem dX1_stallFor_58 : decode cX1_stallFor 58 = .ok (.iload_n 2, 1) := by decide +kernel
theorem dX1_stallFor_59 : decode cX1_stallFor 59 = .ok (.invokevirtual 69, 3) := by decide +kernel
theorem dX1_stallFor_62 : decode cX1_stallFor 62 = .ok (.iconst 3, 1) := by decide +kernel
theorem dX1_stallFor_63 : decode cX1_stallFor 63 = .ok (.if_icmp .ge 5, 3) := by decide +kernel
theorem dX1_stallFor_66 : decode cX1_stallFor 66 = .ok (.iload_n 2, 1) := by decide +kernel
theorem dX1_stallFor_67 : decode cX1_stallFor 67 = .ok (.ireturn, 1) := by decide +kernel
theorem dX1_stallFor_68 : decode cX1_stallFor 68 = .ok (.iinc 2 1, 3) := by decide +kernel
theorem dX1_stallFor_71 : decode cX1_stallFor 71 = .ok (.goto (-69), 3) := by decide +kernel
theorem dX1_stallFor_74 : decode cX1_stallFor 74 = .ok (.bipush (-4), 2) := by decide +kernel
theorem dX1_stallFor_76 : decode cX1_stallFor 76 = .ok (.ireturn, 1) := by decide +kernel
theorem dX1_become_0 : decode cX1_become 0 = .ok (.aload_n 0, 1) := by decide +kernel
theorem dX1_become_1 : decode cX1_become 1 = .ok (.aload_n 1, 1) := by decide +kernel
theorem dX1_become_2 : decode cX1_become 2 = .ok (.getfield 130, 3) := by decide +kernel
theorem dX1_become_5 : decode cX1_become 5 = .ok (.putfield 130, 3) := by decide +kernel
theorem dX1_become_8 : decode cX1_become 8 = .ok (.aload_n 0, 1) := by decide +kernel
theorem dX1_become_9 : decode cX1_become 9 = .ok (.aload_n 1, 1) := by decide +kernel
theorem dX1_become_10 : decode cX1_become 10 = .ok (.getfield 41, 3) := by decide +kernel
theorem dX1_become_13 : decode cX1_become 13 = .ok (.putfield 41, 3) := by decide +kernel
theorem dX1_become_16 : decode cX1_become 16 = .ok (.aload_n 0, 1) := by decide +kernel
theorem dX1_become_17 : decode cX1_become 17 = .ok (.getfield 18, 3) := by decide +kernel
theorem dX1_become_20 : decode cX1_become 20 = .ok (.aload_n 1, 1) := by decide +kernel
theorem dX1_become_21 : decode cX1_become 21 = .ok (.getfield 18, 3) := by decide +kernel
theorem dX1_become_24 : decode cX1_become 24 = .ok (.invokevirtual 134, 3) := by decide +kernel
theorem dX1_become_27 : decode cX1_become 27 = .ok (.aload_n 1, 1) := by decide +kernel
theorem dX1_become_28 : decode cX1_become 28 = .ok (.getfield 22, 3) := by decide +kernel
theorem dX1_become_31 : decode cX1_become 31 = .ok (.aload_n 0, 1) := by decide +kernel
theorem dX1_become_32 : decode cX1_become 32 = .ok (.getfield 22, 3) := by decide +kernel
theorem dX1_become_35 : decode cX1_become 35 = .ok (.invokestatic 138, 3) := by decide +kernel
theorem dX1_become_38 : decode cX1_become 38 = .ok (.aload_n 1, 1) := by decide +kernel
theorem dX1_become_39 : decode cX1_become 39 = .ok (.getfield 26, 3) := by decide +kernel
theorem dX1_become_42 : decode cX1_become 42 = .ok (.aload_n 0, 1) := by decide +kernel
theorem dX1_become_43 : decode cX1_become 43 = .ok (.getfield 26, 3) := by decide +kernel
theorem dX1_become_46 : decode cX1_become 46 = .ok (.invokestatic 138, 3) := by decide +kernel
theorem dX1_become_49 : decode cX1_become 49 = .ok (.aload_n 1, 1) := by decide +kernel
theorem dX1_become_50 : decode cX1_become 50 = .ok (.getfield 29, 3) := by decide +kernel
theorem dX1_become_53 : decode cX1_become 53 = .ok (.aload_n 0, 1) := by decide +kernel
theorem dX1_become_54 : decode cX1_become 54 = .ok (.getfield 29, 3) := by decide +kernel
theorem dX1_become_57 : decode cX1_become 57 = .ok (.invokestatic 138, 3) := by decide +kernel
theorem dX1_become_60 : decode cX1_become 60 = .ok (.aload_n 1, 1) := by decide +kernel
theorem dX1_become_61 : decode cX1_become 61 = .ok (.getfield 32, 3) := by decide +kernel
theorem dX1_become_64 : decode cX1_become 64 = .ok (.aload_n 0, 1) := by decide +kernel
theorem dX1_become_65 : decode cX1_become 65 = .ok (.getfield 32, 3) := by decide +kernel
theorem dX1_become_68 : decode cX1_become 68 = .ok (.invokestatic 138, 3) := by decide +kernel
theorem dX1_become_71 : decode cX1_become 71 = .ok (.aload_n 1, 1) := by decide +kernel
theorem dX1_become_72 : decode cX1_become 72 = .ok (.getfield 35, 3) := by decide +kernel
theorem dX1_become_75 : decode cX1_become 75 = .ok (.aload_n 0, 1) := by decide +kernel
theorem dX1_become_76 : decode cX1_become 76 = .ok (.getfield 35, 3) := by decide +kernel
theorem dX1_become_79 : decode cX1_become 79 = .ok (.invokestatic 138, 3) := by decide +kernel
theorem dX1_become_82 : decode cX1_become 82 = .ok (.aload_n 1, 1) := by decide +kernel
theorem dX1_become_83 : decode cX1_become 83 = .ok (.getfield 38, 3) := by decide +kernel
theorem dX1_become_86 : decode cX1_become 86 = .ok (.aload_n 0, 1) := by decide +kernel
theorem dX1_become_87 : decode cX1_become 87 = .ok (.getfield 38, 3) := by decide +kernel
theorem dX1_become_90 : decode cX1_become 90 = .ok (.invokestatic 138, 3) := by decide +kernel
theorem dX1_become_93 : decode cX1_become 93 = .ok (.return_, 1) := by decide +kernel
theorem dX2_init_0 : decode cX2_init 0 = .ok (.aload_n 0, 1) := by decide +kernel
theorem dX2_init_1 : decode cX2_init 1 = .ok (.invokespecial 3, 3) := by decide +kernel
theorem dX2_init_4 : decode cX2_init 4 = .ok (.aload_n 0, 1) := by decide +kernel
theorem dX2_init_5 : decode cX2_init 5 = .ok (.aload_n 1, 1) := by decide +kernel
theorem dX2_init_6 : decode cX2_init 6 = .ok (.putfield 9, 3) := by decide +kernel
theorem dX2_init_9 : decode cX2_init 9 = .ok (.aload_n 0, 1) := by decide +kernel
theorem dX2_init_10 : decode cX2_init 10 = .ok (.iconst 5, 1) := by decide +kernel
theorem dX2_init_11 : decode cX2_init 11 = .ok (.newarray .int, 2) := by decide +kernel
theorem dX2_init_13 : decode cX2_init 13 = .ok (.putfield 15, 3) := by decide +kernel
theorem dX2_init_16 : decode cX2_init 16 = .ok (.aload_n 0, 1) := by decide +kernel
theorem dX2_init_17 : decode cX2_init 17 = .ok (.iconst 5, 1) := by decide +kernel
theorem dX2_init_18 : decode cX2_init 18 = .ok (.newarray .int, 2) := by decide +kernel
theorem dX2_init_20 : decode cX2_init 20 = .ok (.putfield 19, 3) := by decide +kernel
theorem dX2_init_23 : decode cX2_init 23 = .ok (.aload_n 0, 1) := by decide +kernel
theorem dX2_init_24 : decode cX2_init 24 = .ok (.bipush 8, 2) := by decide +kernel
theorem dX2_init_26 : decode cX2_init 26 = .ok (.newarray .int, 2) := by decide +kernel
theorem dX2_init_28 : decode cX2_init 28 = .ok (.putfield 22, 3) := by decide +kernel
theorem dX2_init_31 : decode cX2_init 31 = .ok (.aload_n 0, 1) := by decide +kernel
theorem dX2_init_32 : decode cX2_init 32 = .ok (.bipush 8, 2) := by decide +kernel
theorem dX2_init_34 : decode cX2_init 34 = .ok (.newarray .int, 2) := by decide +kernel
theorem dX2_init_36 : decode cX2_init 36 = .ok (.putfield 25, 3) := by decide +kernel
theorem dX2_init_39 : decode cX2_init 39 = .ok (.aload_n 0, 1) := by decide +kernel
theorem dX2_init_40 : decode cX2_init 40 = .ok (.bipush (-4), 2) := by decide +kernel
theorem dX2_init_42 : decode cX2_init 42 = .ok (.putfield 28, 3) := by decide +kernel
theorem dX2_init_45 : decode cX2_init 45 = .ok (.aload_n 0, 1) := by decide +kernel
theorem dX2_init_46 : decode cX2_init 46 = .ok (.bipush (-4), 2) := by decide +kernel
theorem dX2_init_48 : decode cX2_init 48 = .ok (.putfield 32, 3) := by decide +kernel
theorem dX2_init_51 : decode cX2_init 51 = .ok (.return_, 1) := by decide +kernel
theorem dX2_placeOf_0 : decode cX2_placeOf 0 = .ok (.aload_n 0, 1) := by decide +kernel
theorem dX2_placeOf_1 : decode cX2_placeOf 1 = .ok (.getfield 19, 3) := by decide +kernel
theorem dX2_placeOf_4 : decode cX2_placeOf 4 = .ok (.iload_n 1, 1) := by decide +kernel
theorem dX2_placeOf_5 : decode cX2_placeOf 5 = .ok (.iaload, 1) := by decide +kernel
theorem dX2_placeOf_6 : decode cX2_placeOf 6 = .ok (.ireturn, 1) := by decide +kernel
theorem dX2_find_0 : decode cX2_find 0 = .ok (.aload_n 0, 1) := by decide +kernel
theorem dX2_find_1 : decode cX2_find 1 = .ok (.bipush (-4), 2) := by decide +kernel
theorem dX2_find_3 : decode cX2_find 3 = .ok (.putfield 28, 3) := by decide +kernel
theorem dX2_find_6 : decode cX2_find 6 = .ok (.aload_n 0, 1) := by decide +kernel
theorem dX2_find_7 : decode cX2_find 7 = .ok (.bipush (-4), 2) := by decide +kernel
theorem dX2_find_9 : decode cX2_find 9 = .ok (.putfield 32, 3) := by decide +kernel
theorem dX2_find_12 : decode cX2_find 12 = .ok (.iconst 0, 1) := by decide +kernel
theorem dX2_find_13 : decode cX2_find 13 = .ok (.istore_n 2, 1) := by decide +kernel
theorem dX2_find_14 : decode cX2_find 14 = .ok (.iload_n 2, 1) := by decide +kernel
theorem dX2_find_15 : decode cX2_find 15 = .ok (.iconst 5, 1) := by decide +kernel
theorem dX2_find_16 : decode cX2_find 16 = .ok (.if_icmp .ge 25, 3) := by decide +kernel
theorem dX2_find_19 : decode cX2_find 19 = .ok (.aload_n 0, 1) := by decide +kernel
theorem dX2_find_20 : decode cX2_find 20 = .ok (.getfield 15, 3) := by decide +kernel
theorem dX2_find_23 : decode cX2_find 23 = .ok (.iload_n 2, 1) := by decide +kernel
theorem dX2_find_24 : decode cX2_find 24 = .ok (.bipush (-4), 2) := by decide +kernel
theorem dX2_find_26 : decode cX2_find 26 = .ok (.iastore, 1) := by decide +kernel
theorem dX2_find_27 : decode cX2_find 27 = .ok (.aload_n 0, 1) := by decide +kernel
theorem dX2_find_28 : decode cX2_find 28 = .ok (.getfield 19, 3) := by decide +kernel
theorem dX2_find_31 : decode cX2_find 31 = .ok (.iload_n 2, 1) := by decide +kernel
theorem dX2_find_32 : decode cX2_find 32 = .ok (.bipush (-4), 2) := by decide +kernel
theorem dX2_find_34 : decode cX2_find 34 = .ok (.iastore, 1) := by decide +kernel
theorem dX2_find_35 : decode cX2_find 35 = .ok (.iinc 2 1, 3) := by decide +kernel
theorem dX2_find_38 : decode cX2_find 38 = .ok (.goto (-24), 3) := by decide +kernel
theorem dX2_find_41 : decode cX2_find 41 = .ok (.iconst 0, 1) := by decide +kernel
theorem dX2_find_42 : decode cX2_find 42 = .ok (.istore_n 2, 1) := by decide +kernel
theorem dX2_find_43 : decode cX2_find 43 = .ok (.iload_n 2, 1) := by decide +kernel
theorem dX2_find_44 : decode cX2_find 44 = .ok (.aload_n 0, 1) := by decide +kernel
theorem dX2_find_45 : decode cX2_find 45 = .ok (.getfield 9, 3) := by decide +kernel
theorem dX2_find_48 : decode cX2_find 48 = .ok (.getfield 35, 3) := by decide +kernel
theorem dX2_find_51 : decode cX2_find 51 = .ok (.if_icmp .ge 29, 3) := by decide +kernel
theorem dX2_find_54 : decode cX2_find 54 = .ok (.aload_n 0, 1) := by decide +kernel
theorem dX2_find_55 : decode cX2_find 55 = .ok (.getfield 22, 3) := by decide +kernel
theorem dX2_find_58 : decode cX2_find 58 = .ok (.iload_n 2, 1) := by decide +kernel
theorem dX2_find_59 : decode cX2_find 59 = .ok (.aload_n 0, 1) := by decide +kernel
theorem dX2_find_60 : decode cX2_find 60 = .ok (.getfield 9, 3) := by decide +kernel
theorem dX2_find_63 : decode cX2_find 63 = .ok (.iload_n 2, 1) := by decide +kernel
theorem dX2_find_64 : decode cX2_find 64 = .ok (.iconst 2, 1) := by decide +kernel
theorem dX2_find_65 : decode cX2_find 65 = .ok (.invokevirtual 40, 3) := by decide +kernel
theorem dX2_find_68 : decode cX2_find 68 = .ok (.iastore, 1) := by decide +kernel
theorem dX2_find_69 : decode cX2_find 69 = .ok (.aload_n 0, 1) := by decide +kernel
theorem dX2_find_70 : decode cX2_find 70 = .ok (.iload_n 2, 1) := by decide +kernel
theorem dX2_find_71 : decode cX2_find 71 = .ok (.invokevirtual 44, 3) := by decide +kernel
theorem dX2_find_74 : decode cX2_find 74 = .ok (.iinc 2 1, 3) := by decide +kernel
theorem dX2_find_77 : decode cX2_find 77 = .ok (.goto (-34), 3) := by decide +kernel
theorem dX2_find_80 : decode cX2_find 80 = .ok (.aload_n 0, 1) := by decide +kernel
theorem dX2_find_81 : decode cX2_find 81 = .ok (.iconst 0, 1) := by decide +kernel
theorem dX2_find_82 : decode cX2_find 82 = .ok (.iload_n 1, 1) := by decide +kernel
theorem dX2_find_83 : decode cX2_find 83 = .ok (.iconst 0, 1) := by decide +kernel
theorem dX2_find_84 : decode cX2_find 84 = .ok (.iconst 0, 1) := by decide +kernel
theorem dX2_find_85 : decode cX2_find 85 = .ok (.invokevirtual 48, 3) := by decide +kernel
theorem dX2_find_88 : decode cX2_find 88 = .ok (.return_, 1) := by decide +kernel
theorem dX2_rank_0 : decode cX2_rank 0 = .ok (.iload_n 1, 1) := by decide +kernel
theorem dX2_rank_1 : decode cX2_rank 1 = .ok (.istore_n 2, 1) := by decide +kernel
theorem dX2_rank_2 : decode cX2_rank 2 = .ok (.iload_n 2, 1) := by decide +kernel
theorem dX2_rank_3 : decode cX2_rank 3 = .ok (.ifCond .le 49, 3) := by decide +kernel
theorem dX2_rank_6 : decode cX2_rank 6 = .ok (.aload_n 0, 1) := by decide +kernel
theorem dX2_rank_7 : decode cX2_rank 7 = .ok (.getfield 9, 3) := by decide +kernel
theorem dX2_rank_10 : decode cX2_rank 10 = .ok (.aload_n 0, 1) := by decide +kernel
theorem dX2_rank_11 : decode cX2_rank 11 = .ok (.getfield 25, 3) := by decide +kernel
theorem dX2_rank_14 : decode cX2_rank 14 = .ok (.iload_n 2, 1) := by decide +kernel
theorem dX2_rank_15 : decode cX2_rank 15 = .ok (.iconst 1, 1) := by decide +kernel
theorem dX2_rank_16 : decode cX2_rank 16 = .ok (.isub, 1) := by decide +kernel
theorem dX2_rank_17 : decode cX2_rank 17 = .ok (.iaload, 1) := by decide +kernel
theorem dX2_rank_18 : decode cX2_rank 18 = .ok (.invokevirtual 52, 3) := by decide +kernel
theorem dX2_rank_21 : decode cX2_rank 21 = .ok (.aload_n 0, 1) := by decide +kernel
theorem dX2_rank_22 : decode cX2_rank 22 = .ok (.getfield 9, 3) := by decide +kernel
theorem dX2_rank_25 : decode cX2_rank 25 = .ok (.iload_n 1, 1) := by decide +kernel
theorem dX2_rank_26 : decode cX2_rank 26 = .ok (.invokevirtual 52, 3) := by decide +kernel
theorem dX2_rank_29 : decode cX2_rank 29 = .ok (.if_icmp .ge 23, 3) := by decide +kernel
theorem dX2_rank_32 : decode cX2_rank 32 = .ok (.aload_n 0, 1) := by decide +kernel
theorem dX2_rank_33 : decode cX2_rank 33 = .ok (.getfield 25, 3) := by decide +kernel
theorem dX2_rank_36 : decode cX2_rank 36 = .ok (.iload_n 2, 1) := by decide +kernel
theorem dX2_rank_37 : decode cX2_rank 37 = .ok (.aload_n 0, 1) := by decide +kernel
theorem dX2_rank_38 : decode cX2_rank 38 = .ok (.getfield 25, 3) := by decide +kernel
theorem dX2_rank_41 : decode cX2_rank 41 = .ok (.iload_n 2, 1) := by decide +kernel
theorem dX2_rank_42 : decode cX2_rank 42 = .ok (.iconst 1, 1) := by decide +kernel
theorem dX2_rank_43 : decode cX2_rank 43 = .ok (.isub, 1) := by decide +kernel
theorem dX2_rank_44 : decode cX2_rank 44 = .ok (.iaload, 1) := by decide +kernel
theorem dX2_rank_45 : decode cX2_rank 45 = .ok (.iastore, 1) := by decide +kernel
theorem dX2_rank_46 : decode cX2_rank 46 = .ok (.iinc 2 (-1), 3) := by decide +kernel
theorem dX2_rank_49 : decode cX2_rank 49 = .ok (.goto (-47), 3) := by decide +kernel
theorem dX2_rank_52 : decode cX2_rank 52 = .ok (.aload_n 0, 1) := by decide +kernel
theorem dX2_rank_53 : decode cX2_rank 53 = .ok (.getfield 25, 3) := by decide +kernel
theorem dX2_rank_56 : decode cX2_rank 56 = .ok (.iload_n 2, 1) := by decide +kernel
theorem dX2_rank_57 : decode cX2_rank 57 = .ok (.iload_n 1, 1) := by decide +kernel
theorem dX2_rank_58 : decode cX2_rank 58 = .ok (.iastore, 1) := by decide +kernel
theorem dX2_rank_59 : decode cX2_rank 59 = .ok (.return_, 1) := by decide +kernel
theorem dX2_tryFrom_0 : decode cX2_tryFrom 0 = .ok (.iload_n 1, 1) := by decide +kernel
theorem dX2_tryFrom_1 : decode cX2_tryFrom 1 = .ok (.aload_n 0, 1) := by decide +kernel
theorem dX2_tryFrom_2 : decode cX2_tryFrom 2 = .ok (.getfield 9, 3) := by decide +kernel
theorem dX2_tryFrom_5 : decode cX2_tryFrom 5 = .ok (.getfield 56, 3) := by decide +kernel
theorem dX2_tryFrom_8 : decode cX2_tryFrom 8 = .ok (.if_icmp .lt 11, 3) := by decide +kernel
theorem dX2_tryFrom_11 : decode cX2_tryFrom 11 = .ok (.aload_n 0, 1) := by decide +kernel
theorem dX2_tryFrom_12 : decode cX2_tryFrom 12 = .ok (.iload_n 3, 1) := by decide +kernel
theorem dX2_tryFrom_13 : decode cX2_tryFrom 13 = .ok (.iload 4, 2) := by decide +kernel
theorem dX2_tryFrom_15 : decode cX2_tryFrom 15 = .ok (.invokevirtual 59, 3) := by decide +kernel
theorem dX2_tryFrom_18 : decode cX2_tryFrom 18 = .ok (.return_, 1) := by decide +kernel
theorem dX2_tryFrom_19 : decode cX2_tryFrom 19 = .ok (.aload_n 0, 1) := by decide +kernel
theorem dX2_tryFrom_20 : decode cX2_tryFrom 20 = .ok (.getfield 9, 3) := by decide +kernel
theorem dX2_tryFrom_23 : decode cX2_tryFrom 23 = .ok (.getfield 56, 3) := by decide +kernel
theorem dX2_tryFrom_26 : decode cX2_tryFrom 26 = .ok (.iload_n 1, 1) := by decide +kernel
theorem dX2_tryFrom_27 : decode cX2_tryFrom 27 = .ok (.isub, 1) := by decide +kernel
theorem dX2_tryFrom_28 : decode cX2_tryFrom 28 = .ok (.istore 5, 2) := by decide +kernel
theorem dX2_tryFrom_30 : decode cX2_tryFrom 30 = .ok (.aload_n 0, 1) := by decide +kernel
theorem dX2_tryFrom_31 : decode cX2_tryFrom 31 = .ok (.iload_n 3, 1) := by decide +kernel
theorem dX2_tryFrom_32 : decode cX2_tryFrom 32 = .ok (.aload_n 0, 1) := by decide +kernel
theorem dX2_tryFrom_33 : decode cX2_tryFrom 33 = .ok (.iload 5, 2) := by decide +kernel
theorem dX2_tryFrom_35 : decode cX2_tryFrom 35 = .ok (.invokevirtual 63, 3) := by decide +kernel
theorem dX2_tryFrom_38 : decode cX2_tryFrom 38 = .ok (.iadd, 1) := by decide +kernel
theorem dX2_tryFrom_39 : decode cX2_tryFrom 39 = .ok (.iload 4, 2) := by decide +kernel
theorem dX2_tryFrom_41 : decode cX2_tryFrom 41 = .ok (.iload 5, 2) := by decide +kernel
theorem dX2_tryFrom_43 : decode cX2_tryFrom 43 = .ok (.iadd, 1) := by decide +kernel
theorem dX2_tryFrom_44 : decode cX2_tryFrom 44 = .ok (.invokevirtual 66, 3) := by decide +kernel
theorem dX2_tryFrom_47 : decode cX2_tryFrom 47 = .ok (.ifCond .ne 4, 3) := by decide +kernel
theorem dX2_tryFrom_50 : decode cX2_tryFrom 50 = .ok (.return_, 1) := by decide +kernel
theorem dX2_tryFrom_51 : decode cX2_tryFrom 51 = .ok (.aload_n 0, 1) := by decide +kernel
theorem dX2_tryFrom_52 : decode cX2_tryFrom 52 = .ok (.getfield 9, 3) := by decide +kernel
theorem dX2_tryFrom_55 : decode cX2_tryFrom 55 = .ok (.iload_n 1, 1) := by decide +kernel
theorem dX2_tryFrom_56 : decode cX2_tryFrom 56 = .ok (.iload_n 2, 1) := by decide +kernel
theorem dX2_tryFrom_57 : decode cX2_tryFrom 57 = .ok (.invokevirtual 70, 3) := by decide +kernel
theorem dX2_tryFrom_60 : decode cX2_tryFrom 60 = .ok (.ifCond .eq 12, 3) := by decide +kernel
theorem dX2_tryFrom_63 : decode cX2_tryFrom 63 = .ok (.aload_n 0, 1) := by decide +kernel
theorem dX2_tryFrom_64 : decode cX2_tryFrom 64 = .ok (.iload_n 1, 1) := by decide +kernel
theorem dX2_tryFrom_65 : decode cX2_tryFrom 65 = .ok (.iload_n 2, 1) := by decide +kernel
theorem dX2_tryFrom_66 : decode cX2_tryFrom 66 = .ok (.iload_n 3, 1) := by decide +kernel
theorem dX2_tryFrom_67 : decode cX2_tryFrom 67 = .ok (.iload 4, 2) := by decide +kernel
theorem dX2_tryFrom_69 : decode cX2_tryFrom 69 = .ok (.invokevirtual 73, 3) := by decide +kernel
theorem dX2_tryFrom_72 : decode cX2_tryFrom 72 = .ok (.aload_n 0, 1) := by decide +kernel
theorem dX2_tryFrom_73 : decode cX2_tryFrom 73 = .ok (.iload_n 1, 1) := by decide +kernel
theorem dX2_tryFrom_74 : decode cX2_tryFrom 74 = .ok (.iconst 1, 1) := by decide +kernel
theorem dX2_tryFrom_75 : decode cX2_tryFrom 75 = .ok (.iadd, 1) := by decide +kernel
theorem dX2_tryFrom_76 : decode cX2_tryFrom 76 = .ok (.iload_n 2, 1) := by decide +kernel
theorem dX2_tryFrom_77 : decode cX2_tryFrom 77 = .ok (.iload_n 3, 1) := by decide +kernel
theorem dX2_tryFrom_78 : decode cX2_tryFrom 78 = .ok (.iload 4, 2) := by decide +kernel
theorem dX2_tryFrom_80 : decode cX2_tryFrom 80 = .ok (.invokevirtual 48, 3) := by decide +kernel
theorem dX2_tryFrom_83 : decode cX2_tryFrom 83 = .ok (.return_, 1) := by decide +kernel
theorem dX2_tryPlaces_0 : decode cX2_tryPlaces 0 = .ok (.iconst 0, 1) := by decide +kernel
theorem dX2_tryPlaces_1 : decode cX2_tryPlaces 1 = .ok (.istore 5, 2) := by decide +kernel
theorem dX2_tryPlaces_3 : decode cX2_tryPlaces 3 = .ok (.iload 5, 2) := by decide +kernel
theorem dX2_tryPlaces_5 : decode cX2_tryPlaces 5 = .ok (.aload_n 0, 1) := by decide +kernel
theorem dX2_tryPlaces_6 : decode cX2_tryPlaces 6 = .ok (.getfield 9, 3) := by decide +kernel
theorem dX2_tryPlaces_9 : decode cX2_tryPlaces 9 = .ok (.getfield 35, 3) := by decide +kernel
theorem dX2_tryPlaces_12 : decode cX2_tryPlaces 12 = .ok (.if_icmp .ge 66, 3) := by decide +kernel
theorem dX2_tryPlaces_15 : decode cX2_tryPlaces 15 = .ok (.aload_n 0, 1) := by decide +kernel
theorem dX2_tryPlaces_16 : decode cX2_tryPlaces 16 = .ok (.iload_n 1, 1) := by decide +kernel
theorem dX2_tryPlaces_17 : decode cX2_tryPlaces 17 = .ok (.iload 5, 2) := by decide +kernel
theorem dX2_tryPlaces_19 : decode cX2_tryPlaces 19 = .ok (.invokevirtual 76, 3) := by decide +kernel
theorem dX2_tryPlaces_22 : decode cX2_tryPlaces 22 = .ok (.ifCond .eq 50, 3) := by decide +kernel
theorem dX2_tryPlaces_25 : decode cX2_tryPlaces 25 = .ok (.aload_n 0, 1) := by decide +kernel
theorem dX2_tryPlaces_26 : decode cX2_tryPlaces 26 = .ok (.getfield 15, 3) := by decide +kernel
theorem dX2_tryPlaces_29 : decode cX2_tryPlaces 29 = .ok (.iload_n 1, 1) := by decide +kernel
theorem dX2_tryPlaces_30 : decode cX2_tryPlaces 30 = .ok (.iload 5, 2) := by decide +kernel
theorem dX2_tryPlaces_32 : decode cX2_tryPlaces 32 = .ok (.iastore, 1) := by decide +kernel
theorem dX2_tryPlaces_33 : decode cX2_tryPlaces 33 = .ok (.aload_n 0, 1) := by decide +kernel
theorem dX2_tryPlaces_34 : decode cX2_tryPlaces 34 = .ok (.getfield 22, 3) := by decide +kernel
theorem dX2_tryPlaces_37 : decode cX2_tryPlaces 37 = .ok (.iload 5, 2) := by decide +kernel
theorem dX2_tryPlaces_39 : decode cX2_tryPlaces 39 = .ok (.iconst 1, 1) := by decide +kernel
theorem dX2_tryPlaces_40 : decode cX2_tryPlaces 40 = .ok (.iastore, 1) := by decide +kernel
theorem dX2_tryPlaces_41 : decode cX2_tryPlaces 41 = .ok (.aload_n 0, 1) := by decide +kernel
theorem dX2_tryPlaces_42 : decode cX2_tryPlaces 42 = .ok (.iload_n 1, 1) := by decide +kernel
theorem dX2_tryPlaces_43 : decode cX2_tryPlaces 43 = .ok (.iconst 1, 1) := by decide +kernel
theorem dX2_tryPlaces_44 : decode cX2_tryPlaces 44 = .ok (.iadd, 1) := by decide +kernel
theorem dX2_tryPlaces_45 : decode cX2_tryPlaces 45 = .ok (.iload_n 2, 1) := by decide +kernel
theorem dX2_tryPlaces_46 : decode cX2_tryPlaces 46 = .ok (.iload_n 3, 1) := by decide +kernel
theorem dX2_tryPlaces_47 : decode cX2_tryPlaces 47 = .ok (.aload_n 0, 1) := by decide +kernel
theorem dX2_tryPlaces_48 : decode cX2_tryPlaces 48 = .ok (.getfield 9, 3) := by decide +kernel
theorem dX2_tryPlaces_51 : decode cX2_tryPlaces 51 = .ok (.iload 5, 2) := by decide +kernel
theorem dX2_tryPlaces_53 : decode cX2_tryPlaces 53 = .ok (.invokevirtual 52, 3) := by decide +kernel
theorem dX2_tryPlaces_56 : decode cX2_tryPlaces 56 = .ok (.iadd, 1) := by decide +kernel
theorem dX2_tryPlaces_57 : decode cX2_tryPlaces 57 = .ok (.iload 4, 2) := by decide +kernel
theorem dX2_tryPlaces_59 : decode cX2_tryPlaces 59 = .ok (.iconst 1, 1) := by decide +kernel
theorem dX2_tryPlaces_60 : decode cX2_tryPlaces 60 = .ok (.iadd, 1) := by decide +kernel
theorem dX2_tryPlaces_61 : decode cX2_tryPlaces 61 = .ok (.invokevirtual 48, 3) := by decide +kernel
theorem dX2_tryPlaces_64 : decode cX2_tryPlaces 64 = .ok (.aload_n 0, 1) := by decide +kernel
theorem dX2_tryPlaces_65 : decode cX2_tryPlaces 65 = .ok (.getfield 22, 3) := by decide +kernel
theorem dX2_tryPlaces_68 : decode cX2_tryPlaces 68 = .ok (.iload 5, 2) := by decide +kernel
theorem dX2_tryPlaces_70 : decode cX2_tryPlaces 70 = .ok (.iconst 0, 1) := by decide +kernel
theorem dX2_tryPlaces_71 : decode cX2_tryPlaces 71 = .ok (.iastore, 1) := by decide +kernel
theorem dX2_tryPlaces_72 : decode cX2_tryPlaces 72 = .ok (.iinc 5 1, 3) := by decide +kernel
theorem dX2_tryPlaces_75 : decode cX2_tryPlaces 75 = .ok (.goto (-72), 3) := by decide +kernel
theorem dX2_tryPlaces_78 : decode cX2_tryPlaces 78 = .ok (.aload_n 0, 1) := by decide +kernel
theorem dX2_tryPlaces_79 : decode cX2_tryPlaces 79 = .ok (.getfield 15, 3) := by decide +kernel
theorem dX2_tryPlaces_82 : decode cX2_tryPlaces 82 = .ok (.iload_n 1, 1) := by decide +kernel
theorem dX2_tryPlaces_83 : decode cX2_tryPlaces 83 = .ok (.bipush (-4), 2) := by decide +kernel
theorem dX2_tryPlaces_85 : decode cX2_tryPlaces 85 = .ok (.iastore, 1) := by decide +kernel
theorem dX2_tryPlaces_86 : decode cX2_tryPlaces 86 = .ok (.return_, 1) := by decide +kernel
theorem dX2_mostRent_0 : decode cX2_mostRent 0 = .ok (.iconst 0, 1) := by decide +kernel
theorem dX2_mostRent_1 : decode cX2_mostRent 1 = .ok (.istore_n 2, 1) := by decide +kernel
theorem dX2_mostRent_2 : decode cX2_mostRent 2 = .ok (.iconst 0, 1) := by decide +kernel
theorem dX2_mostRent_3 : decode cX2_mostRent 3 = .ok (.istore_n 3, 1) := by decide +kernel
theorem dX2_mostRent_4 : decode cX2_mostRent 4 = .ok (.iconst 0, 1) := by decide +kernel
theorem dX2_mostRent_5 : decode cX2_mostRent 5 = .ok (.istore 4, 2) := by decide +kernel
theorem dX2_mostRent_7 : decode cX2_mostRent 7 = .ok (.iload 4, 2) := by decide +kernel
theorem dX2_mostRent_9 : decode cX2_mostRent 9 = .ok (.aload_n 0, 1) := by decide +kernel
theorem dX2_mostRent_10 : decode cX2_mostRent 10 = .ok (.getfield 9, 3) := by decide +kernel
theorem dX2_mostRent_13 : decode cX2_mostRent 13 = .ok (.getfield 35, 3) := by decide +kernel
theorem dX2_mostRent_16 : decode cX2_mostRent 16 = .ok (.if_icmp .ge 49, 3) := by decide +kernel
theorem dX2_mostRent_19 : decode cX2_mostRent 19 = .ok (.iload_n 3, 1) := by decide +kernel
theorem dX2_mostRent_20 : decode cX2_mostRent 20 = .ok (.iload_n 1, 1) := by decide +kernel
theorem dX2_mostRent_21 : decode cX2_mostRent 21 = .ok (.if_icmp .ge 44, 3) := by decide +kernel
theorem dX2_mostRent_24 : decode cX2_mostRent 24 = .ok (.aload_n 0, 1) := by decide +kernel
theorem dX2_mostRent_25 : decode cX2_mostRent 25 = .ok (.getfield 22, 3) := by decide +kernel
theorem dX2_mostRent_28 : decode cX2_mostRent 28 = .ok (.aload_n 0, 1) := by decide +kernel
theorem dX2_mostRent_29 : decode cX2_mostRent 29 = .ok (.getfield 25, 3) := by decide +kernel
theorem dX2_mostRent_32 : decode cX2_mostRent 32 = .ok (.iload 4, 2) := by decide +kernel
theorem dX2_mostRent_34 : decode cX2_mostRent 34 = .ok (.iaload, 1) := by decide +kernel
theorem dX2_mostRent_35 : decode cX2_mostRent 35 = .ok (.iaload, 1) := by decide +kernel
theorem dX2_mostRent_36 : decode cX2_mostRent 36 = .ok (.ifCond .ne 23, 3) := by decide +kernel
theorem dX2_mostRent_39 : decode cX2_mostRent 39 = .ok (.iload_n 2, 1) := by decide +kernel
theorem dX2_mostRent_40 : decode cX2_mostRent 40 = .ok (.aload_n 0, 1) := by decide +kernel
theorem dX2_mostRent_41 : decode cX2_mostRent 41 = .ok (.getfield 9, 3) := by decide +kernel
theorem dX2_mostRent_44 : decode cX2_mostRent 44 = .ok (.aload_n 0, 1) := by decide +kernel
theorem dX2_mostRent_45 : decode cX2_mostRent 45 = .ok (.getfield 25, 3) := by decide +kernel
theorem dX2_mostRent_48 : decode cX2_mostRent 48 = .ok (.iload 4, 2) := by decide +kernel
theorem dX2_mostRent_50 : decode cX2_mostRent 50 = .ok (.iaload, 1) := by decide +kernel
theorem dX2_mostRent_51 : decode cX2_mostRent 51 = .ok (.invokevirtual 52, 3) := by decide +kernel
theorem dX2_mostRent_54 : decode cX2_mostRent 54 = .ok (.iadd, 1) := by decide +kernel
theorem dX2_mostRent_55 : decode cX2_mostRent 55 = .ok (.istore_n 2, 1) := by decide +kernel
theorem dX2_mostRent_56 : decode cX2_mostRent 56 = .ok (.iinc 3 1, 3) := by decide +kernel
theorem dX2_mostRent_59 : decode cX2_mostRent 59 = .ok (.iinc 4 1, 3) := by decide +kernel
theorem dX2_mostRent_62 : decode cX2_mostRent 62 = .ok (.goto (-55), 3) := by decide +kernel
theorem dX2_mostRent_65 : decode cX2_mostRent 65 = .ok (.iload_n 2, 1) := by decide +kernel
theorem dX2_mostRent_66 : decode cX2_mostRent 66 = .ok (.ireturn, 1) := by decide +kernel
theorem dX2_isBetter_0 : decode cX2_isBetter 0 = .ok (.iload_n 1, 1) := by decide +kernel
theorem dX2_isBetter_1 : decode cX2_isBetter 1 = .ok (.aload_n 0, 1) := by decide +kernel
theorem dX2_isBetter_2 : decode cX2_isBetter 2 = .ok (.getfield 28, 3) := by decide +kernel
theorem dX2_isBetter_5 : decode cX2_isBetter 5 = .ok (.if_icmp .gt 19, 3) := by decide +kernel
theorem dX2_isBetter_8 : decode cX2_isBetter 8 = .ok (.iload_n 1, 1) := by decide +kernel
theorem dX2_isBetter_9 : decode cX2_isBetter 9 = .ok (.aload_n 0, 1) := by decide +kernel
theorem dX2_isBetter_10 : decode cX2_isBetter 10 = .ok (.getfield 28, 3) := by decide +kernel
theorem dX2_isBetter_13 : decode cX2_isBetter 13 = .ok (.if_icmp .ne 15, 3) := by decide +kernel
theorem dX2_isBetter_16 : decode cX2_isBetter 16 = .ok (.iload_n 2, 1) := by decide +kernel
theorem dX2_isBetter_17 : decode cX2_isBetter 17 = .ok (.aload_n 0, 1) := by decide +kernel
theorem dX2_isBetter_18 : decode cX2_isBetter 18 = .ok (.getfield 32, 3) := by decide +kernel
theorem dX2_isBetter_21 : decode cX2_isBetter 21 = .ok (.if_icmp .le 7, 3) := by decide +kernel
theorem dX2_isBetter_24 : decode cX2_isBetter 24 = .ok (.iconst 1, 1) := by decide +kernel
theorem dX2_isBetter_25 : decode cX2_isBetter 25 = .ok (.goto 4, 3) := by decide +kernel
theorem dX2_isBetter_28 : decode cX2_isBetter 28 = .ok (.iconst 0, 1) := by decide +kernel
theorem dX2_isBetter_29 : decode cX2_isBetter 29 = .ok (.ireturn, 1) := by decide +kernel
theorem dX2_judge_0 : decode cX2_judge 0 = .ok (.aload_n 0, 1) := by decide +kernel
theorem dX2_judge_1 : decode cX2_judge 1 = .ok (.iload_n 1, 1) := by decide +kernel
theorem dX2_judge_2 : decode cX2_judge 2 = .ok (.iload_n 2, 1) := by decide +kernel
theorem dX2_judge_3 : decode cX2_judge 3 = .ok (.invokevirtual 66, 3) := by decide +kernel
theorem dX2_judge_6 : decode cX2_judge 6 = .ok (.ifCond .eq 24, 3) := by decide +kernel
theorem dX2_judge_9 : decode cX2_judge 9 = .ok (.aload_n 0, 1) := by decide +kernel
theorem dX2_judge_10 : decode cX2_judge 10 = .ok (.iload_n 1, 1) := by decide +kernel
theorem dX2_judge_11 : decode cX2_judge 11 = .ok (.putfield 28, 3) := by decide +kernel
theorem dX2_judge_14 : decode cX2_judge 14 = .ok (.aload_n 0, 1) := by decide +kernel
theorem dX2_judge_15 : decode cX2_judge 15 = .ok (.iload_n 2, 1) := by decide +kernel
theorem dX2_judge_16 : decode cX2_judge 16 = .ok (.putfield 32, 3) := by decide +kernel
theorem dX2_judge_19 : decode cX2_judge 19 = .ok (.aload_n 0, 1) := by decide +kernel
theorem dX2_judge_20 : decode cX2_judge 20 = .ok (.getfield 15, 3) := by decide +kernel
theorem dX2_judge_23 : decode cX2_judge 23 = .ok (.aload_n 0, 1) := by decide +kernel
theorem dX2_judge_24 : decode cX2_judge 24 = .ok (.getfield 19, 3) := by decide +kernel
theorem dX2_judge_27 : decode cX2_judge 27 = .ok (.invokestatic 79, 3) := by decide +kernel
theorem dX2_judge_30 : decode cX2_judge 30 = .ok (.return_, 1) := by decide +kernel
theorem dX2_fits_0 : decode cX2_fits 0 = .ok (.aload_n 0, 1) := by decide +kernel
theorem dX2_fits_1 : decode cX2_fits 1 = .ok (.getfield 22, 3) := by decide +kernel
theorem dX2_fits_4 : decode cX2_fits 4 = .ok (.iload_n 2, 1) := by decide +kernel
theorem dX2_fits_5 : decode cX2_fits 5 = .ok (.iaload, 1) := by decide +kernel
theorem dX2_fits_6 : decode cX2_fits 6 = .ok (.iconst 1, 1) := by decide +kernel
theorem dX2_fits_7 : decode cX2_fits 7 = .ok (.if_icmp .ne 5, 3) := by decide +kernel
theorem dX2_fits_10 : decode cX2_fits 10 = .ok (.iconst 0, 1) := by decide +kernel
theorem dX2_fits_11 : decode cX2_fits 11 = .ok (.ireturn, 1) := by decide +kernel
theorem dX2_fits_12 : decode cX2_fits 12 = .ok (.aload_n 0, 1) := by decide +kernel
theorem dX2_fits_13 : decode cX2_fits 13 = .ok (.getfield 9, 3) := by decide +kernel
theorem dX2_fits_16 : decode cX2_fits 16 = .ok (.iload_n 2, 1) := by decide +kernel
theorem dX2_fits_17 : decode cX2_fits 17 = .ok (.invokevirtual 83, 3) := by decide +kernel
theorem dX2_fits_20 : decode cX2_fits 20 = .ok (.istore_n 3, 1) := by decide +kernel
theorem dX2_fits_21 : decode cX2_fits 21 = .ok (.aload_n 0, 1) := by decide +kernel
theorem dX2_fits_22 : decode cX2_fits 22 = .ok (.getfield 9, 3) := by decide +kernel
theorem dX2_fits_25 : decode cX2_fits 25 = .ok (.iload_n 1, 1) := by decide +kernel
theorem dX2_fits_26 : decode cX2_fits 26 = .ok (.iconst 2, 1) := by decide +kernel
theorem dX2_fits_27 : decode cX2_fits 27 = .ok (.invokevirtual 86, 3) := by decide +kernel
theorem dX2_fits_30 : decode cX2_fits 30 = .ok (.istore 4, 2) := by decide +kernel
theorem dX2_fits_32 : decode cX2_fits 32 = .ok (.iconst 0, 1) := by decide +kernel
theorem dX2_fits_33 : decode cX2_fits 33 = .ok (.istore 5, 2) := by decide +kernel
theorem dX2_fits_35 : decode cX2_fits 35 = .ok (.iload 5, 2) := by decide +kernel
theorem dX2_fits_37 : decode cX2_fits 37 = .ok (.iload_n 1, 1) := by decide +kernel
theorem dX2_fits_38 : decode cX2_fits 38 = .ok (.if_icmp .ge 72, 3) := by decide +kernel
theorem dX2_fits_41 : decode cX2_fits 41 = .ok (.aload_n 0, 1) := by decide +kernel
theorem dX2_fits_42 : decode cX2_fits 42 = .ok (.getfield 15, 3) := by decide +kernel
theorem dX2_fits_45 : decode cX2_fits 45 = .ok (.iload 5, 2) := by decide +kernel
theorem dX2_fits_47 : decode cX2_fits 47 = .ok (.iaload, 1) := by decide +kernel
theorem dX2_fits_48 : decode cX2_fits 48 = .ok (.istore 6, 2) := by decide +kernel
theorem dX2_fits_50 : decode cX2_fits 50 = .ok (.iload 6, 2) := by decide +kernel
theorem dX2_fits_52 : decode cX2_fits 52 = .ok (.bipush (-4), 2) := by decide +kernel
theorem dX2_fits_54 : decode cX2_fits 54 = .ok (.if_icmp .eq 50, 3) := by decide +kernel
theorem dX2_fits_57 : decode cX2_fits 57 = .ok (.aload_n 0, 1) := by decide +kernel
theorem dX2_fits_58 : decode cX2_fits 58 = .ok (.iload_n 1, 1) := by decide +kernel
theorem dX2_fits_59 : decode cX2_fits 59 = .ok (.iload 5, 2) := by decide +kernel
theorem dX2_fits_61 : decode cX2_fits 61 = .ok (.iload_n 2, 1) := by decide +kernel
theorem dX2_fits_62 : decode cX2_fits 62 = .ok (.iload 6, 2) := by decide +kernel
theorem dX2_fits_64 : decode cX2_fits 64 = .ok (.isub, 1) := by decide +kernel
theorem dX2_fits_65 : decode cX2_fits 65 = .ok (.invokestatic 89, 3) := by decide +kernel
theorem dX2_fits_68 : decode cX2_fits 68 = .ok (.invokevirtual 94, 3) := by decide +kernel
theorem dX2_fits_71 : decode cX2_fits 71 = .ok (.ifCond .ne 5, 3) := by decide +kernel
theorem dX2_fits_74 : decode cX2_fits 74 = .ok (.iconst 0, 1) := by decide +kernel
theorem dX2_fits_75 : decode cX2_fits 75 = .ok (.ireturn, 1) := by decide +kernel
theorem dX2_fits_76 : decode cX2_fits 76 = .ok (.aload_n 0, 1) := by decide +kernel
theorem dX2_fits_77 : decode cX2_fits 77 = .ok (.getfield 9, 3) := by decide +kernel
theorem dX2_fits_80 : decode cX2_fits 80 = .ok (.iload 6, 2) := by decide +kernel
theorem dX2_fits_82 : decode cX2_fits 82 = .ok (.invokevirtual 83, 3) := by decide +kernel
theorem dX2_fits_85 : decode cX2_fits 85 = .ok (.iload_n 3, 1) := by decide +kernel
theorem dX2_fits_86 : decode cX2_fits 86 = .ok (.if_icmp .ne 18, 3) := by decide +kernel
theorem dX2_fits_89 : decode cX2_fits 89 = .ok (.iload 4, 2) := by decide +kernel
theorem dX2_fits_91 : decode cX2_fits 91 = .ok (.aload_n 0, 1) := by decide +kernel
theorem dX2_fits_92 : decode cX2_fits 92 = .ok (.getfield 9, 3) := by decide +kernel
theorem dX2_fits_95 : decode cX2_fits 95 = .ok (.iload 5, 2) := by decide +kernel
theorem dX2_fits_97 : decode cX2_fits 97 = .ok (.iconst 2, 1) := by decide +kernel
theorem dX2_fits_98 : decode cX2_fits 98 = .ok (.invokevirtual 86, 3) := by decide +kernel
theorem dX2_fits_101 : decode cX2_fits 101 = .ok (.iadd, 1) := by decide +kernel
theorem dX2_fits_102 : decode cX2_fits 102 = .ok (.istore 4, 2) := by decide +kernel
theorem dX2_fits_104 : decode cX2_fits 104 = .ok (.iinc 5 1, 3) := by decide +kernel
theorem dX2_fits_107 : decode cX2_fits 107 = .ok (.goto (-72), 3) := by decide +kernel
theorem dX2_fits_110 : decode cX2_fits 110 = .ok (.iload 4, 2) := by decide +kernel
theorem dX2_fits_112 : decode cX2_fits 112 = .ok (.aload_n 0, 1) := by decide +kernel
theorem dX2_fits_113 : decode cX2_fits 113 = .ok (.getfield 9, 3) := by decide +kernel
theorem dX2_fits_116 : decode cX2_fits 116 = .ok (.iload_n 3, 1) := by decide +kernel
theorem dX2_fits_117 : decode cX2_fits 117 = .ok (.invokevirtual 98, 3) := by decide +kernel
theorem dX2_fits_120 : decode cX2_fits 120 = .ok (.if_icmp .gt 7, 3) := by decide +kernel
theorem dX2_fits_123 : decode cX2_fits 123 = .ok (.iconst 1, 1) := by decide +kernel
theorem dX2_fits_124 : decode cX2_fits 124 = .ok (.goto 4, 3) := by decide +kernel
theorem dX2_fits_127 : decode cX2_fits 127 = .ok (.iconst 0, 1) := by decide +kernel
theorem dX2_fits_128 : decode cX2_fits 128 = .ok (.ireturn, 1) := by decide +kernel
theorem dX2_bear_0 : decode cX2_bear 0 = .ok (.iload_n 3, 1) := by decide +kernel
theorem dX2_bear_1 : decode cX2_bear 1 = .ok (.aload_n 0, 1) := by decide +kernel
theorem dX2_bear_2 : decode cX2_bear 2 = .ok (.getfield 9, 3) := by decide +kernel
theorem dX2_bear_5 : decode cX2_bear 5 = .ok (.iconst 0, 1) := by decide +kernel
theorem dX2_bear_6 : decode cX2_bear 6 = .ok (.invokevirtual 101, 3) := by decide +kernel
theorem dX2_bear_9 : decode cX2_bear 9 = .ok (.if_icmp .gt 26, 3) := by decide +kernel
theorem dX2_bear_12 : decode cX2_bear 12 = .ok (.aload_n 0, 1) := by decide +kernel
theorem dX2_bear_13 : decode cX2_bear 13 = .ok (.getfield 9, 3) := by decide +kernel
theorem dX2_bear_16 : decode cX2_bear 16 = .ok (.iload_n 1, 1) := by decide +kernel
theorem dX2_bear_17 : decode cX2_bear 17 = .ok (.iconst 0, 1) := by decide +kernel
theorem dX2_bear_18 : decode cX2_bear 18 = .ok (.invokevirtual 86, 3) := by decide +kernel
theorem dX2_bear_21 : decode cX2_bear 21 = .ok (.aload_n 0, 1) := by decide +kernel
theorem dX2_bear_22 : decode cX2_bear 22 = .ok (.getfield 9, 3) := by decide +kernel
theorem dX2_bear_25 : decode cX2_bear 25 = .ok (.iload_n 2, 1) := by decide +kernel
theorem dX2_bear_26 : decode cX2_bear 26 = .ok (.iconst 0, 1) := by decide +kernel
theorem dX2_bear_27 : decode cX2_bear 27 = .ok (.invokevirtual 86, 3) := by decide +kernel
theorem dX2_bear_30 : decode cX2_bear 30 = .ok (.if_icmp .ne 5, 3) := by decide +kernel
theorem dX2_bear_33 : decode cX2_bear 33 = .ok (.iconst 0, 1) := by decide +kernel
theorem dX2_bear_34 : decode cX2_bear 34 = .ok (.ireturn, 1) := by decide +kernel
theorem dX2_bear_35 : decode cX2_bear 35 = .ok (.iload_n 3, 1) := by decide +kernel
theorem dX2_bear_36 : decode cX2_bear 36 = .ok (.iconst 1, 1) := by decide +kernel
theorem dX2_bear_37 : decode cX2_bear 37 = .ok (.if_icmp .ne 31, 3) := by decide +kernel
theorem dX2_bear_40 : decode cX2_bear 40 = .ok (.aload_n 0, 1) := by decide +kernel
theorem dX2_bear_41 : decode cX2_bear 41 = .ok (.getfield 9, 3) := by decide +kernel
theorem dX2_bear_44 : decode cX2_bear 44 = .ok (.aload_n 0, 1) := by decide +kernel
theorem dX2_bear_45 : decode cX2_bear 45 = .ok (.getfield 9, 3) := by decide +kernel
theorem dX2_bear_48 : decode cX2_bear 48 = .ok (.iload_n 1, 1) := by decide +kernel
theorem dX2_bear_49 : decode cX2_bear 49 = .ok (.iconst 1, 1) := by decide +kernel
theorem dX2_bear_50 : decode cX2_bear 50 = .ok (.invokevirtual 86, 3) := by decide +kernel
theorem dX2_bear_53 : decode cX2_bear 53 = .ok (.aload_n 0, 1) := by decide +kernel
theorem dX2_bear_54 : decode cX2_bear 54 = .ok (.getfield 9, 3) := by decide +kernel
theorem dX2_bear_57 : decode cX2_bear 57 = .ok (.iload_n 2, 1) := by decide +kernel
theorem dX2_bear_58 : decode cX2_bear 58 = .ok (.iconst 1, 1) := by decide +kernel
theorem dX2_bear_59 : decode cX2_bear 59 = .ok (.invokevirtual 86, 3) := by decide +kernel
theorem dX2_bear_62 : decode cX2_bear 62 = .ok (.invokevirtual 104, 3) := by decide +kernel
theorem dX2_bear_65 : decode cX2_bear 65 = .ok (.ifCond .ne 7, 3) := by decide +kernel
theorem dX2_bear_68 : decode cX2_bear 68 = .ok (.iconst 1, 1) := by decide +kernel
theorem dX2_bear_69 : decode cX2_bear 69 = .ok (.goto 4, 3) := by decide +kernel
theorem dX2_bear_72 : decode cX2_bear 72 = .ok (.iconst 0, 1) := by decide +kernel
theorem dX2_bear_73 : decode cX2_bear 73 = .ok (.ireturn, 1) := by decide +kernel
theorem dX3_init_0 : decode cX3_init 0 = .ok (.aload_n 0, 1) := by decide +kernel
theorem dX3_init_1 : decode cX3_init 1 = .ok (.invokespecial 3, 3) := by decide +kernel
theorem dX3_init_4 : decode cX3_init 4 = .ok (.aload_n 0, 1) := by decide +kernel
theorem dX3_init_5 : decode cX3_init 5 = .ok (.iconst 1, 1) := by decide +kernel
theorem dX3_init_6 : decode cX3_init 6 = .ok (.putfield 9, 3) := by decide +kernel
theorem dX3_init_9 : decode cX3_init 9 = .ok (.aload_n 0, 1) := by decide +kernel
theorem dX3_init_10 : decode cX3_init 10 = .ok (.iconst 0, 1) := by decide +kernel
theorem dX3_init_11 : decode cX3_init 11 = .ok (.putfield 15, 3) := by decide +kernel
theorem dX3_init_14 : decode cX3_init 14 = .ok (.aload_n 0, 1) := by decide +kernel
theorem dX3_init_15 : decode cX3_init 15 = .ok (.bipush 24, 2) := by decide +kernel
theorem dX3_init_17 : decode cX3_init 17 = .ok (.newarray .int, 2) := by decide +kernel
theorem dX3_init_19 : decode cX3_init 19 = .ok (.putfield 18, 3) := by decide +kernel
theorem dX3_init_22 : decode cX3_init 22 = .ok (.aload_n 0, 1) := by decide +kernel
theorem dX3_init_23 : decode cX3_init 23 = .ok (.iconst 3, 1) := by decide +kernel
theorem dX3_init_24 : decode cX3_init 24 = .ok (.newarray .int, 2) := by decide +kernel
theorem dX3_init_26 : decode cX3_init 26 = .ok (.putfield 22, 3) := by decide +kernel
theorem dX3_init_29 : decode cX3_init 29 = .ok (.iconst 0, 1) := by decide +kernel
theorem dX3_init_30 : decode cX3_init 30 = .ok (.istore_n 1, 1) := by decide +kernel
theorem dX3_init_31 : decode cX3_init 31 = .ok (.iload_n 1, 1) := by decide +kernel
theorem dX3_init_32 : decode cX3_init 32 = .ok (.iconst 3, 1) := by decide +kernel
theorem dX3_init_33 : decode cX3_init 33 = .ok (.if_icmp .ge 17, 3) := by decide +kernel
theorem dX3_init_36 : decode cX3_init 36 = .ok (.aload_n 0, 1) := by decide +kernel
theorem dX3_init_37 : decode cX3_init 37 = .ok (.getfield 22, 3) := by decide +kernel
theorem dX3_init_40 : decode cX3_init 40 = .ok (.iload_n 1, 1) := by decide +kernel
theorem dX3_init_41 : decode cX3_init 41 = .ok (.bipush 30, 2) := by decide +kernel
theorem dX3_init_43 : decode cX3_init 43 = .ok (.iastore, 1) := by decide +kernel
theorem dX3_init_44 : decode cX3_init 44 = .ok (.iinc 1 1, 3) := by decide +kernel
theorem dX3_init_47 : decode cX3_init 47 = .ok (.goto (-16), 3) := by decide +kernel
theorem dX3_init_50 : decode cX3_init 50 = .ok (.aload_n 0, 1) := by decide +kernel
theorem dX3_init_51 : decode cX3_init 51 = .ok (.bipush 16, 2) := by decide +kernel
theorem dX3_init_53 : decode cX3_init 53 = .ok (.newarray .int, 2) := by decide +kernel
theorem dX3_init_55 : decode cX3_init 55 = .ok (.putfield 25, 3) := by decide +kernel
theorem dX3_init_58 : decode cX3_init 58 = .ok (.aload_n 0, 1) := by decide +kernel
theorem dX3_init_59 : decode cX3_init 59 = .ok (.iconst 2, 1) := by decide +kernel
theorem dX3_init_60 : decode cX3_init 60 = .ok (.newarray .int, 2) := by decide +kernel
theorem dX3_init_62 : decode cX3_init 62 = .ok (.putfield 28, 3) := by decide +kernel
theorem dX3_init_65 : decode cX3_init 65 = .ok (.aload_n 0, 1) := by decide +kernel
theorem dX3_init_66 : decode cX3_init 66 = .ok (.getfield 28, 3) := by decide +kernel
theorem dX3_init_69 : decode cX3_init 69 = .ok (.iconst 0, 1) := by decide +kernel
theorem dX3_init_70 : decode cX3_init 70 = .ok (.iconst 1, 1) := by decide +kernel
theorem dX3_init_71 : decode cX3_init 71 = .ok (.iastore, 1) := by decide +kernel
theorem dX3_init_72 : decode cX3_init 72 = .ok (.aload_n 0, 1) := by decide +kernel
theorem dX3_init_73 : decode cX3_init 73 = .ok (.getfield 28, 3) := by decide +kernel
theorem dX3_init_76 : decode cX3_init 76 = .ok (.iconst 1, 1) := by decide +kernel
theorem dX3_init_77 : decode cX3_init 77 = .ok (.bipush 10, 2) := by decide +kernel
theorem dX3_init_79 : decode cX3_init 79 = .ok (.iastore, 1) := by decide +kernel
theorem dX3_init_80 : decode cX3_init 80 = .ok (.aload_n 0, 1) := by decide +kernel
theorem dX3_init_81 : decode cX3_init 81 = .ok (.bipush 30, 2) := by decide +kernel
theorem dX3_init_83 : decode cX3_init 83 = .ok (.newarray .int, 2) := by decide +kernel
theorem dX3_init_85 : decode cX3_init 85 = .ok (.putfield 31, 3) := by decide +kernel
theorem dX3_init_88 : decode cX3_init 88 = .ok (.return_, 1) := by decide +kernel
theorem dX3_layOut_0 : decode cX3_layOut 0 = .ok (.aload_n 0, 1) := by decide +kernel
theorem dX3_layOut_1 : decode cX3_layOut 1 = .ok (.iload_n 1, 1) := by decide +kernel
theorem dX3_layOut_2 : decode cX3_layOut 2 = .ok (.putfield 9, 3) := by decide +kernel
theorem dX3_layOut_5 : decode cX3_layOut 5 = .ok (.iconst 0, 1) := by decide +kernel
theorem dX3_layOut_6 : decode cX3_layOut 6 = .ok (.istore_n 2, 1) := by decide +kernel
theorem dX3_layOut_7 : decode cX3_layOut 7 = .ok (.iload_n 2, 1) := by decide +kernel
theorem dX3_layOut_8 : decode cX3_layOut 8 = .ok (.aload_n 0, 1) := by decide +kernel
theorem dX3_layOut_9 : decode cX3_layOut 9 = .ok (.getfield 18, 3) := by decide +kernel
theorem dX3_layOut_12 : decode cX3_layOut 12 = .ok (.arraylength, 1) := by decide +kernel
theorem dX3_layOut_13 : decode cX3_layOut 13 = .ok (.if_icmp .ge 16, 3) := by decide +kernel
theorem dX3_layOut_16 : decode cX3_layOut 16 = .ok (.aload_n 0, 1) := by decide +kernel
theorem dX3_layOut_17 : decode cX3_layOut 17 = .ok (.getfield 18, 3) := by decide +kernel
theorem dX3_layOut_20 : decode cX3_layOut 20 = .ok (.iload_n 2, 1) := by decide +kernel
theorem dX3_layOut_21 : decode cX3_layOut 21 = .ok (.iconst 0, 1) := by decide +kernel
theorem dX3_layOut_22 : decode cX3_layOut 22 = .ok (.iastore, 1) := by decide +kernel
theorem dX3_layOut_23 : decode cX3_layOut 23 = .ok (.iinc 2 1, 3) := by decide +kernel
theorem dX3_layOut_26 : decode cX3_layOut 26 = .ok (.goto (-19), 3) := by decide +kernel
theorem dX3_layOut_29 : decode cX3_layOut 29 = .ok (.return_, 1) := by decide +kernel
theorem dX3_hasPlace_0 : decode cX3_hasPlace 0 = .ok (.iload_n 1, 1) := by decide +kernel
theorem dX3_hasPlace_1 : decode cX3_hasPlace 1 = .ok (.iconst 0, 1) := by decide +kernel
theorem dX3_hasPlace_2 : decode cX3_hasPlace 2 = .ok (.aload_n 0, 1) := by decide +kernel
theorem dX3_hasPlace_3 : decode cX3_hasPlace 3 = .ok (.getfield 9, 3) := by decide +kernel
theorem dX3_hasPlace_6 : decode cX3_hasPlace 6 = .ok (.iconst 1, 1) := by decide +kernel
theorem dX3_hasPlace_7 : decode cX3_hasPlace 7 = .ok (.isub, 1) := by decide +kernel
theorem dX3_hasPlace_8 : decode cX3_hasPlace 8 = .ok (.invokestatic 34, 3) := by decide +kernel
theorem dX3_hasPlace_11 : decode cX3_hasPlace 11 = .ok (.ireturn, 1) := by decide +kernel
theorem dX3_hasStall_0 : decode cX3_hasStall 0 = .ok (.iload_n 1, 1) := by decide +kernel
theorem dX3_hasStall_1 : decode cX3_hasStall 1 = .ok (.iconst 0, 1) := by decide +kernel
theorem dX3_hasStall_2 : decode cX3_hasStall 2 = .ok (.aload_n 0, 1) := by decide +kernel
theorem dX3_hasStall_3 : decode cX3_hasStall 3 = .ok (.getfield 15, 3) := by decide +kernel
theorem dX3_hasStall_6 : decode cX3_hasStall 6 = .ok (.iconst 1, 1) := by decide +kernel
theorem dX3_hasStall_7 : decode cX3_hasStall 7 = .ok (.isub, 1) := by decide +kernel
theorem dX3_hasStall_8 : decode cX3_hasStall 8 = .ok (.invokestatic 34, 3) := by decide +kernel
theorem dX3_hasStall_11 : decode cX3_hasStall 11 = .ok (.ireturn, 1) := by decide +kernel
theorem dX3_placeFact_0 : decode cX3_placeFact 0 = .ok (.aload_n 0, 1) := by decide +kernel
theorem dX3_placeFact_1 : decode cX3_placeFact 1 = .ok (.getfield 18, 3) := by decide +kernel
theorem dX3_placeFact_4 : decode cX3_placeFact 4 = .ok (.iload_n 1, 1) := by decide +kernel
theorem dX3_placeFact_5 : decode cX3_placeFact 5 = .ok (.iconst 3, 1) := by decide +kernel
theorem dX3_placeFact_6 : decode cX3_placeFact 6 = .ok (.imul, 1) := by decide +kernel
theorem dX3_placeFact_7 : decode cX3_placeFact 7 = .ok (.iload_n 2, 1) := by decide +kernel
theorem dX3_placeFact_8 : decode cX3_placeFact 8 = .ok (.iadd, 1) := by decide +kernel
theorem dX3_placeFact_9 : decode cX3_placeFact 9 = .ok (.iaload, 1) := by decide +kernel
theorem dX3_placeFact_10 : decode cX3_placeFact 10 = .ok (.ireturn, 1) := by decide +kernel
theorem dX3_setPlaceFact_0 : decode cX3_setPlaceFact 0 = .ok (.aload_n 0, 1) := by decide +kernel
theorem dX3_setPlaceFact_1 : decode cX3_setPlaceFact 1 = .ok (.iload_n 1, 1) := by decide +kernel
theorem dX3_setPlaceFact_2 : decode cX3_setPlaceFact 2 = .ok (.iload_n 2, 1) := by decide +kernel
theorem dX3_setPlaceFact_3 : decode cX3_setPlaceFact 3 = .ok (.invokevirtual 38, 3) := by decide +kernel
theorem dX3_setPlaceFact_6 : decode cX3_setPlaceFact 6 = .ok (.istore 4, 2) := by decide +kernel
theorem dX3_setPlaceFact_8 : decode cX3_setPlaceFact 8 = .ok (.aload_n 0, 1) := by decide +kernel
theorem dX3_setPlaceFact_9 : decode cX3_setPlaceFact 9 = .ok (.getfield 18, 3) := by decide +kernel
theorem dX3_setPlaceFact_12 : decode cX3_setPlaceFact 12 = .ok (.iload_n 1, 1) := by decide +kernel
theorem dX3_setPlaceFact_13 : decode cX3_setPlaceFact 13 = .ok (.iconst 3, 1) := by decide +kernel
theorem dX3_setPlaceFact_14 : decode cX3_setPlaceFact 14 = .ok (.imul, 1) := by decide +kernel
theorem dX3_setPlaceFact_15 : decode cX3_setPlaceFact 15 = .ok (.iload_n 2, 1) := by decide +kernel
theorem dX3_setPlaceFact_16 : decode cX3_setPlaceFact 16 = .ok (.iadd, 1) := by decide +kernel
theorem dX3_setPlaceFact_17 : decode cX3_setPlaceFact 17 = .ok (.iload_n 3, 1) := by decide +kernel
theorem dX3_setPlaceFact_18 : decode cX3_setPlaceFact 18 = .ok (.iastore, 1) := by decide +kernel
theorem dX3_setPlaceFact_19 : decode cX3_setPlaceFact 19 = .ok (.iload 4, 2) := by decide +kernel
theorem dX3_setPlaceFact_21 : decode cX3_setPlaceFact 21 = .ok (.ireturn, 1) := by decide +kernel
theorem dX3_rentOf_0 : decode cX3_rentOf 0 = .ok (.aload_n 0, 1) := by decide +kernel
theorem dX3_rentOf_1 : decode cX3_rentOf 1 = .ok (.iload_n 1, 1) := by decide +kernel
theorem dX3_rentOf_2 : decode cX3_rentOf 2 = .ok (.iconst 0, 1) := by decide +kernel
theorem dX3_rentOf_3 : decode cX3_rentOf 3 = .ok (.invokevirtual 38, 3) := by decide +kernel
theorem dX3_rentOf_6 : decode cX3_rentOf 6 = .ok (.ireturn, 1) := by decide +kernel
theorem dX3_lineAt_0 : decode cX3_lineAt 0 = .ok (.aload_n 0, 1) := by decide +kernel
theorem dX3_lineAt_1 : decode cX3_lineAt 1 = .ok (.iload_n 1, 1) := by decide +kernel
theorem dX3_lineAt_2 : decode cX3_lineAt 2 = .ok (.iconst 1, 1) := by decide +kernel
theorem dX3_lineAt_3 : decode cX3_lineAt 3 = .ok (.invokevirtual 38, 3) := by decide +kernel
theorem dX3_lineAt_6 : decode cX3_lineAt 6 = .ok (.ireturn, 1) := by decide +kernel
theorem dX3_lanes_0 : decode cX3_lanes 0 = .ok (.iconst 0, 1) := by decide +kernel
theorem dX3_lanes_1 : decode cX3_lanes 1 = .ok (.istore_n 1, 1) := by decide +kernel
theorem dX3_lanes_2 : decode cX3_lanes 2 = .ok (.iconst 0, 1) := by decide +kernel
theorem dX3_lanes_3 : decode cX3_lanes 3 = .ok (.istore_n 2, 1) := by decide +kernel
theorem dX3_lanes_4 : decode cX3_lanes 4 = .ok (.iload_n 2, 1) := by decide +kernel
theorem dX3_lanes_5 : decode cX3_lanes 5 = .ok (.aload_n 0, 1) := by decide +kernel
theorem dX3_lanes_6 : decode cX3_lanes 6 = .ok (.getfield 9, 3) := by decide +kernel
theorem dX3_lanes_9 : decode cX3_lanes 9 = .ok (.if_icmp .ge 18, 3) := by decide +kernel
theorem dX3_lanes_12 : decode cX3_lanes 12 = .ok (.iload_n 1, 1) := by decide +kernel
theorem dX3_lanes_13 : decode cX3_lanes 13 = .ok (.aload_n 0, 1) := by decide +kernel
theorem dX3_lanes_14 : decode cX3_lanes 14 = .ok (.iload_n 2, 1) := by decide +kernel
theorem dX3_lanes_15 : decode cX3_lanes 15 = .ok (.iconst 2, 1) := by decide +kernel
theorem dX3_lanes_16 : decode cX3_lanes 16 = .ok (.invokevirtual 38, 3) := by decide +kernel
theorem dX3_lanes_19 : decode cX3_lanes 19 = .ok (.iadd, 1) := by decide +kernel
theorem dX3_lanes_20 : decode cX3_lanes 20 = .ok (.istore_n 1, 1) := by decide +kernel
theorem dX3_lanes_21 : decode cX3_lanes 21 = .ok (.iinc 2 1, 3) := by decide +kernel
theorem dX3_lanes_24 : decode cX3_lanes 24 = .ok (.goto (-20), 3) := by decide +kernel
theorem dX3_lanes_27 : decode cX3_lanes 27 = .ok (.iload_n 1, 1) := by decide +kernel
theorem dX3_lanes_28 : decode cX3_lanes 28 = .ok (.ireturn, 1) := by decide +kernel
theorem dX3_limitOf_0 : decode cX3_limitOf 0 = .ok (.aload_n 0, 1) := by decide +kernel
theorem dX3_limitOf_1 : decode cX3_limitOf 1 = .ok (.getfield 22, 3) := by decide +kernel
theorem dX3_limitOf_4 : decode cX3_limitOf 4 = .ok (.iload_n 1, 1) := by decide +kernel
theorem dX3_limitOf_5 : decode cX3_limitOf 5 = .ok (.iaload, 1) := by decide +kernel
theorem dX3_limitOf_6 : decode cX3_limitOf 6 = .ok (.ireturn, 1) := by decide +kernel
theorem dX3_setLimit_0 : decode cX3_setLimit 0 = .ok (.aload_n 0, 1) := by decide +kernel
theorem dX3_setLimit_1 : decode cX3_setLimit 1 = .ok (.getfield 22, 3) := by decide +kernel
theorem dX3_setLimit_4 : decode cX3_setLimit 4 = .ok (.iload_n 1, 1) := by decide +kernel
theorem dX3_setLimit_5 : decode cX3_setLimit 5 = .ok (.iaload, 1) := by decide +kernel
theorem dX3_setLimit_6 : decode cX3_setLimit 6 = .ok (.istore_n 3, 1) := by decide +kernel
theorem dX3_setLimit_7 : decode cX3_setLimit 7 = .ok (.aload_n 0, 1) := by decide +kernel
theorem dX3_setLimit_8 : decode cX3_setLimit 8 = .ok (.getfield 22, 3) := by decide +kernel
theorem dX3_setLimit_11 : decode cX3_setLimit 11 = .ok (.iload_n 1, 1) := by decide +kernel
theorem dX3_setLimit_12 : decode cX3_setLimit 12 = .ok (.iload_n 2, 1) := by decide +kernel
theorem dX3_setLimit_13 : decode cX3_setLimit 13 = .ok (.iastore, 1) := by decide +kernel
theorem dX3_setLimit_14 : decode cX3_setLimit 14 = .ok (.iload_n 3, 1) := by decide +kernel
theorem dX3_setLimit_15 : decode cX3_setLimit 15 = .ok (.ireturn, 1) := by decide +kernel
theorem dX3_doClash_0 : decode cX3_doClash 0 = .ok (.aload_n 0, 1) := by decide +kernel
theorem dX3_doClash_1 : decode cX3_doClash 1 = .ok (.getfield 25, 3) := by decide +kernel
theorem dX3_doClash_4 : decode cX3_doClash 4 = .ok (.iload_n 1, 1) := by decide +kernel
theorem dX3_doClash_5 : decode cX3_doClash 5 = .ok (.iconst 4, 1) := by decide +kernel
theorem dX3_doClash_6 : decode cX3_doClash 6 = .ok (.imul, 1) := by decide +kernel
theorem dX3_doClash_7 : decode cX3_doClash 7 = .ok (.iload_n 2, 1) := by decide +kernel
theorem dX3_doClash_8 : decode cX3_doClash 8 = .ok (.iadd, 1) := by decide +kernel
theorem dX3_doClash_9 : decode cX3_doClash 9 = .ok (.iaload, 1) := by decide +kernel
theorem dX3_doClash_10 : decode cX3_doClash 10 = .ok (.iconst 1, 1) := by decide +kernel
theorem dX3_doClash_11 : decode cX3_doClash 11 = .ok (.if_icmp .ne 7, 3) := by decide +kernel
theorem dX3_doClash_14 : decode cX3_doClash 14 = .ok (.iconst 1, 1) := by decide +kernel
theorem dX3_doClash_15 : decode cX3_doClash 15 = .ok (.goto 4, 3) := by decide +kernel
theorem dX3_doClash_18 : decode cX3_doClash 18 = .ok (.iconst 0, 1) := by decide +kernel
theorem dX3_doClash_19 : decode cX3_doClash 19 = .ok (.ireturn, 1) := by decide +kernel
theorem dX3_setClash_0 : decode cX3_setClash 0 = .ok (.aload_n 0, 1) := by decide +kernel
theorem dX3_setClash_1 : decode cX3_setClash 1 = .ok (.iload_n 1, 1) := by decide +kernel
theorem dX3_setClash_2 : decode cX3_setClash 2 = .ok (.iload_n 2, 1) := by decide +kernel
theorem dX3_setClash_3 : decode cX3_setClash 3 = .ok (.invokevirtual 42, 3) := by decide +kernel
theorem dX3_setClash_6 : decode cX3_setClash 6 = .ok (.iload_n 3, 1) := by decide +kernel
theorem dX3_setClash_7 : decode cX3_setClash 7 = .ok (.if_icmp .eq 7, 3) := by decide +kernel
theorem dX3_setClash_10 : decode cX3_setClash 10 = .ok (.iconst 1, 1) := by decide +kernel
theorem dX3_setClash_11 : decode cX3_setClash 11 = .ok (.goto 4, 3) := by decide +kernel
theorem dX3_setClash_14 : decode cX3_setClash 14 = .ok (.iconst 0, 1) := by decide +kernel
theorem dX3_setClash_15 : decode cX3_setClash 15 = .ok (.istore 4, 2) := by decide +kernel
theorem dX3_setClash_17 : decode cX3_setClash 17 = .ok (.aload_n 0, 1) := by decide +kernel
theorem dX3_setClash_18 : decode cX3_setClash 18 = .ok (.getfield 25, 3) := by decide +kernel
theorem dX3_setClash_21 : decode cX3_setClash 21 = .ok (.iload_n 1, 1) := by decide +kernel
theorem dX3_setClash_22 : decode cX3_setClash 22 = .ok (.iconst 4, 1) := by decide +kernel
theorem dX3_setClash_23 : decode cX3_setClash 23 = .ok (.imul, 1) := by decide +kernel
theorem dX3_setClash_24 : decode cX3_setClash 24 = .ok (.iload_n 2, 1) := by decide +kernel
theorem dX3_setClash_25 : decode cX3_setClash 25 = .ok (.iadd, 1) := by decide +kernel
theorem dX3_setClash_26 : decode cX3_setClash 26 = .ok (.iload_n 3, 1) := by decide +kernel
theorem dX3_setClash_27 : decode cX3_setClash 27 = .ok (.ifCond .eq 7, 3) := by decide +kernel
theorem dX3_setClash_30 : decode cX3_setClash 30 = .ok (.iconst 1, 1) := by decide +kernel
theorem dX3_setClash_31 : decode cX3_setClash 31 = .ok (.goto 4, 3) := by decide +kernel
theorem dX3_setClash_34 : decode cX3_setClash 34 = .ok (.iconst 0, 1) := by decide +kernel
theorem dX3_setClash_35 : decode cX3_setClash 35 = .ok (.iastore, 1) := by decide +kernel
theorem dX3_setClash_36 : decode cX3_setClash 36 = .ok (.aload_n 0, 1) := by decide +kernel
theorem dX3_setClash_37 : decode cX3_setClash 37 = .ok (.getfield 25, 3) := by decide +kernel
theorem dX3_setClash_40 : decode cX3_setClash 40 = .ok (.iload_n 2, 1) := by decide +kernel
theorem dX3_setClash_41 : decode cX3_setClash 41 = .ok (.iconst 4, 1) := by decide +kernel
theorem dX3_setClash_42 : decode cX3_setClash 42 = .ok (.imul, 1) := by decide +kernel
theorem dX3_setClash_43 : decode cX3_setClash 43 = .ok (.iload_n 1, 1) := by decide +kernel
theorem dX3_setClash_44 : decode cX3_setClash 44 = .ok (.iadd, 1) := by decide +kernel
theorem dX3_setClash_45 : decode cX3_setClash 45 = .ok (.iload_n 3, 1) := by decide +kernel
theorem dX3_setClash_46 : decode cX3_setClash 46 = .ok (.ifCond .eq 7, 3) := by decide +kernel
theorem dX3_setClash_49 : decode cX3_setClash 49 = .ok (.iconst 1, 1) := by decide +kernel
theorem dX3_setClash_50 : decode cX3_setClash 50 = .ok (.goto 4, 3) := by decide +kernel
theorem dX3_setClash_53 : decode cX3_setClash 53 = .ok (.iconst 0, 1) := by decide +kernel
theorem dX3_setClash_54 : decode cX3_setClash 54 = .ok (.iastore, 1) := by decide +kernel
theorem dX3_setClash_55 : decode cX3_setClash 55 = .ok (.iload 4, 2) := by decide +kernel
theorem dX3_setClash_57 : decode cX3_setClash 57 = .ok (.ireturn, 1) := by decide +kernel
theorem dX3_ruled_0 : decode cX3_ruled 0 = .ok (.aload_n 0, 1) := by decide +kernel
theorem dX3_ruled_1 : decode cX3_ruled 1 = .ok (.getfield 28, 3) := by decide +kernel
theorem dX3_ruled_4 : decode cX3_ruled 4 = .ok (.iload_n 1, 1) := by decide +kernel
theorem dX3_ruled_5 : decode cX3_ruled 5 = .ok (.iaload, 1) := by decide +kernel
theorem dX3_ruled_6 : decode cX3_ruled 6 = .ok (.ireturn, 1) := by decide +kernel
theorem dX3_setRule_0 : decode cX3_setRule 0 = .ok (.aload_n 0, 1) := by decide +kernel
theorem dX3_setRule_1 : decode cX3_setRule 1 = .ok (.getfield 28, 3) := by decide +kernel
theorem dX3_setRule_4 : decode cX3_setRule 4 = .ok (.iload_n 1, 1) := by decide +kernel
theorem dX3_setRule_5 : decode cX3_setRule 5 = .ok (.iaload, 1) := by decide +kernel
theorem dX3_setRule_6 : decode cX3_setRule 6 = .ok (.istore_n 3, 1) := by decide +kernel
theorem dX3_setRule_7 : decode cX3_setRule 7 = .ok (.aload_n 0, 1) := by decide +kernel
theorem dX3_setRule_8 : decode cX3_setRule 8 = .ok (.getfield 28, 3) := by decide +kernel
theorem dX3_setRule_11 : decode cX3_setRule 11 = .ok (.iload_n 1, 1) := by decide +kernel
theorem dX3_setRule_12 : decode cX3_setRule 12 = .ok (.iload_n 2, 1) := by decide +kernel
theorem dX3_setRule_13 : decode cX3_setRule 13 = .ok (.iastore, 1) := by decide +kernel
theorem dX3_setRule_14 : decode cX3_setRule 14 = .ok (.iload_n 3, 1) := by decide +kernel
theorem dX3_setRule_15 : decode cX3_setRule 15 = .ok (.ireturn, 1) := by decide +kernel
theorem dX3_trait_0 : decode cX3_trait 0 = .ok (.aload_n 0, 1) := by decide +kernel
theorem dX3_trait_1 : decode cX3_trait 1 = .ok (.getfield 31, 3) := by decide +kernel
theorem dX3_trait_4 : decode cX3_trait 4 = .ok (.iload_n 1, 1) := by decide +kernel
theorem dX3_trait_5 : decode cX3_trait 5 = .ok (.bipush 6, 2) := by decide +kernel
theorem dX3_trait_7 : decode cX3_trait 7 = .ok (.imul, 1) := by decide +kernel
theorem dX3_trait_8 : decode cX3_trait 8 = .ok (.iload_n 2, 1) := by decide +kernel
theorem dX3_trait_9 : decode cX3_trait 9 = .ok (.iadd, 1) := by decide +kernel
theorem dX3_trait_10 : decode cX3_trait 10 = .ok (.iaload, 1) := by decide +kernel
theorem dX3_trait_11 : decode cX3_trait 11 = .ok (.ireturn, 1) := by decide +kernel
theorem dX3_setTrait_0 : decode cX3_setTrait 0 = .ok (.aload_n 0, 1) := by decide +kernel
theorem dX3_setTrait_1 : decode cX3_setTrait 1 = .ok (.iload_n 1, 1) := by decide +kernel
theorem dX3_setTrait_2 : decode cX3_setTrait 2 = .ok (.iload_n 2, 1) := by decide +kernel
theorem dX3_setTrait_3 : decode cX3_setTrait 3 = .ok (.invokevirtual 46, 3) := by decide +kernel
theorem dX3_setTrait_6 : decode cX3_setTrait 6 = .ok (.istore 4, 2) := by decide +kernel
theorem dX3_setTrait_8 : decode cX3_setTrait 8 = .ok (.aload_n 0, 1) := by decide +kernel
theorem dX3_setTrait_9 : decode cX3_setTrait 9 = .ok (.getfield 31, 3) := by decide +kernel
theorem dX3_setTrait_12 : decode cX3_setTrait 12 = .ok (.iload_n 1, 1) := by decide +kernel
theorem dX3_setTrait_13 : decode cX3_setTrait 13 = .ok (.bipush 6, 2) := by decide +kernel
theorem dX3_setTrait_15 : decode cX3_setTrait 15 = .ok (.imul, 1) := by decide +kernel
theorem dX3_setTrait_16 : decode cX3_setTrait 16 = .ok (.iload_n 2, 1) := by decide +kernel
theorem dX3_setTrait_17 : decode cX3_setTrait 17 = .ok (.iadd, 1) := by decide +kernel
theorem dX3_setTrait_18 : decode cX3_setTrait 18 = .ok (.iload_n 3, 1) := by decide +kernel
theorem dX3_setTrait_19 : decode cX3_setTrait 19 = .ok (.iastore, 1) := by decide +kernel
theorem dX3_setTrait_20 : decode cX3_setTrait 20 = .ok (.iload 4, 2) := by decide +kernel
theorem dX3_setTrait_22 : decode cX3_setTrait 22 = .ok (.ireturn, 1) := by decide +kernel
theorem dX3_mayStand_0 : decode cX3_mayStand 0 = .ok (.iload_n 2, 1) := by decide +kernel
theorem dX3_mayStand_1 : decode cX3_mayStand 1 = .ok (.aload_n 0, 1) := by decide +kernel
theorem dX3_mayStand_2 : decode cX3_mayStand 2 = .ok (.iload_n 1, 1) := by decide +kernel
theorem dX3_mayStand_3 : decode cX3_mayStand 3 = .ok (.iconst 5, 1) := by decide +kernel
theorem dX3_mayStand_4 : decode cX3_mayStand 4 = .ok (.invokevirtual 46, 3) := by decide +kernel
theorem dX3_mayStand_7 : decode cX3_mayStand 7 = .ok (.if_icmp .gt 7, 3) := by decide +kernel
theorem dX3_mayStand_10 : decode cX3_mayStand 10 = .ok (.iconst 1, 1) := by decide +kernel
theorem dX3_mayStand_11 : decode cX3_mayStand 11 = .ok (.goto 4, 3) := by decide +kernel
theorem dX3_mayStand_14 : decode cX3_mayStand 14 = .ok (.iconst 0, 1) := by decide +kernel
theorem dX3_mayStand_15 : decode cX3_mayStand 15 = .ok (.ireturn, 1) := by decide +kernel
theorem dX3_become_0 : decode cX3_become 0 = .ok (.aload_n 0, 1) := by decide +kernel
theorem dX3_become_1 : decode cX3_become 1 = .ok (.aload_n 1, 1) := by decide +kernel
theorem dX3_become_2 : decode cX3_become 2 = .ok (.getfield 9, 3) := by decide +kernel
theorem dX3_become_5 : decode cX3_become 5 = .ok (.putfield 9, 3) := by decide +kernel
theorem dX3_become_8 : decode cX3_become 8 = .ok (.aload_n 0, 1) := by decide +kernel
theorem dX3_become_9 : decode cX3_become 9 = .ok (.aload_n 1, 1) := by decide +kernel
theorem dX3_become_10 : decode cX3_become 10 = .ok (.getfield 15, 3) := by decide +kernel
theorem dX3_become_13 : decode cX3_become 13 = .ok (.putfield 15, 3) := by decide +kernel
theorem dX3_become_16 : decode cX3_become 16 = .ok (.aload_n 1, 1) := by decide +kernel
theorem dX3_become_17 : decode cX3_become 17 = .ok (.getfield 18, 3) := by decide +kernel
theorem dX3_become_20 : decode cX3_become 20 = .ok (.aload_n 0, 1) := by decide +kernel
theorem dX3_become_21 : decode cX3_become 21 = .ok (.getfield 18, 3) := by decide +kernel
theorem dX3_become_24 : decode cX3_become 24 = .ok (.invokestatic 49, 3) := by decide +kernel
theorem dX3_become_27 : decode cX3_become 27 = .ok (.aload_n 1, 1) := by decide +kernel
theorem dX3_become_28 : decode cX3_become 28 = .ok (.getfield 22, 3) := by decide +kernel
theorem dX3_become_31 : decode cX3_become 31 = .ok (.aload_n 0, 1) := by decide +kernel
theorem dX3_become_32 : decode cX3_become 32 = .ok (.getfield 22, 3) := by decide +kernel
theorem dX3_become_35 : decode cX3_become 35 = .ok (.invokestatic 49, 3) := by decide +kernel
theorem dX3_become_38 : decode cX3_become 38 = .ok (.aload_n 1, 1) := by decide +kernel
theorem dX3_become_39 : decode cX3_become 39 = .ok (.getfield 25, 3) := by decide +kernel
theorem dX3_become_42 : decode cX3_become 42 = .ok (.aload_n 0, 1) := by decide +kernel
theorem dX3_become_43 : decode cX3_become 43 = .ok (.getfield 25, 3) := by decide +kernel
theorem dX3_become_46 : decode cX3_become 46 = .ok (.invokestatic 49, 3) := by decide +kernel
theorem dX3_become_49 : decode cX3_become 49 = .ok (.aload_n 1, 1) := by decide +kernel
theorem dX3_become_50 : decode cX3_become 50 = .ok (.getfield 28, 3) := by decide +kernel
theorem dX3_become_53 : decode cX3_become 53 = .ok (.aload_n 0, 1) := by decide +kernel
theorem dX3_become_54 : decode cX3_become 54 = .ok (.getfield 28, 3) := by decide +kernel
theorem dX3_become_57 : decode cX3_become 57 = .ok (.invokestatic 49, 3) := by decide +kernel
theorem dX3_become_60 : decode cX3_become 60 = .ok (.aload_n 1, 1) := by decide +kernel
theorem dX3_become_61 : decode cX3_become 61 = .ok (.getfield 31, 3) := by decide +kernel
theorem dX3_become_64 : decode cX3_become 64 = .ok (.aload_n 0, 1) := by decide +kernel
theorem dX3_become_65 : decode cX3_become 65 = .ok (.getfield 31, 3) := by decide +kernel
theorem dX3_become_68 : decode cX3_become 68 = .ok (.invokestatic 49, 3) := by decide +kernel
theorem dX3_become_71 : decode cX3_become 71 = .ok (.return_, 1) := by decide +kernel
theorem dX4_init_0 : decode cX4_init 0 = .ok (.aload_n 0, 1) := by decide +kernel
theorem dX4_init_1 : decode cX4_init 1 = .ok (.invokespecial 1, 3) := by decide +kernel
theorem dX4_init_4 : decode cX4_init 4 = .ok (.aload_n 0, 1) := by decide +kernel
theorem dX4_init_5 : decode cX4_init 5 = .ok (.new 7, 3) := by decide +kernel
theorem dX4_init_8 : decode cX4_init 8 = .ok (.dup, 1) := by decide +kernel
theorem dX4_init_9 : decode cX4_init 9 = .ok (.invokespecial 9, 3) := by decide +kernel
theorem dX4_init_12 : decode cX4_init 12 = .ok (.putfield 10, 3) := by decide +kernel
theorem dX4_init_15 : decode cX4_init 15 = .ok (.aload_n 0, 1) := by decide +kernel
theorem dX4_init_16 : decode cX4_init 16 = .ok (.new 16, 3) := by decide +kernel
theorem dX4_init_19 : decode cX4_init 19 = .ok (.dup, 1) := by decide +kernel
theorem dX4_init_20 : decode cX4_init 20 = .ok (.aload_n 0, 1) := by decide +kernel
theorem dX4_init_21 : decode cX4_init 21 = .ok (.getfield 10, 3) := by decide +kernel
theorem dX4_init_24 : decode cX4_init 24 = .ok (.invokespecial 18, 3) := by decide +kernel
theorem dX4_init_27 : decode cX4_init 27 = .ok (.putfield 21, 3) := by decide +kernel
theorem dX4_init_30 : decode cX4_init 30 = .ok (.aload_n 0, 1) := by decide +kernel
theorem dX4_init_31 : decode cX4_init 31 = .ok (.new 25, 3) := by decide +kernel
theorem dX4_init_34 : decode cX4_init 34 = .ok (.dup, 1) := by decide +kernel
theorem dX4_init_35 : decode cX4_init 35 = .ok (.aload_n 0, 1) := by decide +kernel
theorem dX4_init_36 : decode cX4_init 36 = .ok (.getfield 10, 3) := by decide +kernel
theorem dX4_init_39 : decode cX4_init 39 = .ok (.invokespecial 27, 3) := by decide +kernel
theorem dX4_init_42 : decode cX4_init 42 = .ok (.putfield 28, 3) := by decide +kernel
theorem dX4_init_45 : decode cX4_init 45 = .ok (.aload_n 0, 1) := by decide +kernel
theorem dX4_init_46 : decode cX4_init 46 = .ok (.new 7, 3) := by decide +kernel
theorem dX4_init_49 : decode cX4_init 49 = .ok (.dup, 1) := by decide +kernel
theorem dX4_init_50 : decode cX4_init 50 = .ok (.invokespecial 9, 3) := by decide +kernel
theorem dX4_init_53 : decode cX4_init 53 = .ok (.putfield 32, 3) := by decide +kernel
theorem dX4_init_56 : decode cX4_init 56 = .ok (.aload_n 0, 1) := by decide +kernel
theorem dX4_init_57 : decode cX4_init 57 = .ok (.new 16, 3) := by decide +kernel
theorem dX4_init_60 : decode cX4_init 60 = .ok (.dup, 1) := by decide +kernel
theorem dX4_init_61 : decode cX4_init 61 = .ok (.aload_n 0, 1) := by decide +kernel
theorem dX4_init_62 : decode cX4_init 62 = .ok (.getfield 32, 3) := by decide +kernel
theorem dX4_init_65 : decode cX4_init 65 = .ok (.invokespecial 18, 3) := by decide +kernel
theorem dX4_init_68 : decode cX4_init 68 = .ok (.putfield 35, 3) := by decide +kernel
theorem dX4_init_71 : decode cX4_init 71 = .ok (.aload_n 0, 1) := by decide +kernel
theorem dX4_init_72 : decode cX4_init 72 = .ok (.iconst 0, 1) := by decide +kernel
theorem dX4_init_73 : decode cX4_init 73 = .ok (.putfield 38, 3) := by decide +kernel
theorem dX4_init_76 : decode cX4_init 76 = .ok (.return_, 1) := by decide +kernel
theorem dX4_street_0 : decode cX4_street 0 = .ok (.aload_n 0, 1) := by decide +kernel
theorem dX4_street_1 : decode cX4_street 1 = .ok (.getfield 21, 3) := by decide +kernel
theorem dX4_street_4 : decode cX4_street 4 = .ok (.getfield 42, 3) := by decide +kernel
theorem dX4_street_7 : decode cX4_street 7 = .ok (.ifCond .eq 6, 3) := by decide +kernel
theorem dX4_street_10 : decode cX4_street 10 = .ok (.bipush (-3), 2) := by decide +kernel
theorem dX4_street_12 : decode cX4_street 12 = .ok (.ireturn, 1) := by decide +kernel
theorem dX4_street_13 : decode cX4_street 13 = .ok (.iload_n 1, 1) := by decide +kernel
theorem dX4_street_14 : decode cX4_street 14 = .ok (.iconst 1, 1) := by decide +kernel
theorem dX4_street_15 : decode cX4_street 15 = .ok (.bipush 8, 2) := by decide +kernel
theorem dX4_street_17 : decode cX4_street 17 = .ok (.invokestatic 45, 3) := by decide +kernel
theorem dX4_street_20 : decode cX4_street 20 = .ok (.ifCond .ne 5, 3) := by decide +kernel
theorem dX4_street_23 : decode cX4_street 23 = .ok (.iconst (-1), 1) := by decide +kernel
theorem dX4_street_24 : decode cX4_street 24 = .ok (.ireturn, 1) := by decide +kernel
theorem dX4_street_25 : decode cX4_street 25 = .ok (.aload_n 0, 1) := by decide +kernel
theorem dX4_street_26 : decode cX4_street 26 = .ok (.getfield 10, 3) := by decide +kernel
theorem dX4_street_29 : decode cX4_street 29 = .ok (.iload_n 1, 1) := by decide +kernel
theorem dX4_street_30 : decode cX4_street 30 = .ok (.invokevirtual 49, 3) := by decide +kernel
theorem dX4_street_33 : decode cX4_street 33 = .ok (.aload_n 0, 1) := by decide +kernel
theorem dX4_street_34 : decode cX4_street 34 = .ok (.getfield 21, 3) := by decide +kernel
theorem dX4_street_37 : decode cX4_street 37 = .ok (.invokevirtual 53, 3) := by decide +kernel
theorem dX4_street_40 : decode cX4_street 40 = .ok (.iload_n 1, 1) := by decide +kernel
theorem dX4_street_41 : decode cX4_street 41 = .ok (.ireturn, 1) := by decide +kernel
theorem dX4_place_0 : decode cX4_place 0 = .ok (.aload_n 0, 1) := by decide +kernel
theorem dX4_place_1 : decode cX4_place 1 = .ok (.getfield 21, 3) := by decide +kernel
theorem dX4_place_4 : decode cX4_place 4 = .ok (.getfield 42, 3) := by decide +kernel
theorem dX4_place_7 : decode cX4_place 7 = .ok (.ifCond .eq 6, 3) := by decide +kernel
theorem dX4_place_10 : decode cX4_place 10 = .ok (.bipush (-3), 2) := by decide +kernel
theorem dX4_place_12 : decode cX4_place 12 = .ok (.ireturn, 1) := by decide +kernel
theorem dX4_place_13 : decode cX4_place 13 = .ok (.aload_n 0, 1) := by decide +kernel
theorem dX4_place_14 : decode cX4_place 14 = .ok (.getfield 10, 3) := by decide +kernel
theorem dX4_place_17 : decode cX4_place 17 = .ok (.iload_n 1, 1) := by decide +kernel
theorem dX4_place_18 : decode cX4_place 18 = .ok (.invokevirtual 56, 3) := by decide +kernel
theorem dX4_place_21 : decode cX4_place 21 = .ok (.ifCond .eq 12, 3) := by decide +kernel
theorem dX4_place_24 : decode cX4_place 24 = .ok (.iload_n 2, 1) := by decide +kernel
theorem dX4_place_25 : decode cX4_place 25 = .ok (.iconst 0, 1) := by decide +kernel
theorem dX4_place_26 : decode cX4_place 26 = .ok (.iconst 2, 1) := by decide +kernel
theorem dX4_place_27 : decode cX4_place 27 = .ok (.invokestatic 45, 3) := by decide +kernel
theorem dX4_place_30 : decode cX4_place 30 = .ok (.ifCond .ne 5, 3) := by decide +kernel
theorem dX4_place_33 : decode cX4_place 33 = .ok (.iconst (-1), 1) := by decide +kernel
theorem dX4_place_34 : decode cX4_place 34 = .ok (.ireturn, 1) := by decide +kernel
theorem dX4_place_35 : decode cX4_place 35 = .ok (.iload_n 3, 1) := by decide +kernel
theorem dX4_place_36 : decode cX4_place 36 = .ok (.iconst 0, 1) := by decide +kernel
theorem dX4_place_37 : decode cX4_place 37 = .ok (.getstatic 60, 3) := by decide +kernel
theorem dX4_place_40 : decode cX4_place 40 = .ok (.iload_n 2, 1) := by decide +kernel
theorem dX4_place_41 : decode cX4_place 41 = .ok (.iaload, 1) := by decide +kernel
theorem dX4_place_42 : decode cX4_place 42 = .ok (.invokestatic 45, 3) := by decide +kernel
theorem dX4_place_45 : decode cX4_place 45 = .ok (.ifCond .ne 5, 3) := by decide +kernel
theorem dX4_place_48 : decode cX4_place 48 = .ok (.iconst (-1), 1) := by decide +kernel
theorem dX4_place_49 : decode cX4_place 49 = .ok (.ireturn, 1) := by decide +kernel
theorem dX4_place_50 : decode cX4_place 50 = .ok (.aload_n 0, 1) := by decide +kernel
theorem dX4_place_51 : decode cX4_place 51 = .ok (.getfield 10, 3) := by decide +kernel
theorem dX4_place_54 : decode cX4_place 54 = .ok (.iload_n 1, 1) := by decide +kernel
theorem dX4_place_55 : decode cX4_place 55 = .ok (.iload_n 2, 1) := by decide +kernel
theorem dX4_place_56 : decode cX4_place 56 = .ok (.iload_n 3, 1) := by decide +kernel
theorem dX4_place_57 : decode cX4_place 57 = .ok (.invokevirtual 64, 3) := by decide +kernel
theorem dX4_place_60 : decode cX4_place 60 = .ok (.ireturn, 1) := by decide +kernel
theorem dX4_limit_0 : decode cX4_limit 0 = .ok (.aload_n 0, 1) := by decide +kernel
theorem dX4_limit_1 : decode cX4_limit 1 = .ok (.getfield 21, 3) := by decide +kernel
theorem dX4_limit_4 : decode cX4_limit 4 = .ok (.getfield 42, 3) := by decide +kernel
theorem dX4_limit_7 : decode cX4_limit 7 = .ok (.ifCond .eq 6, 3) := by decide +kernel
theorem dX4_limit_10 : decode cX4_limit 10 = .ok (.bipush (-3), 2) := by decide +kernel
theorem dX4_limit_12 : decode cX4_limit 12 = .ok (.ireturn, 1) := by decide +kernel
theorem dX4_limit_13 : decode cX4_limit 13 = .ok (.iload_n 1, 1) := by decide +kernel
theorem dX4_limit_14 : decode cX4_limit 14 = .ok (.invokestatic 68, 3) := by decide +kernel
theorem dX4_limit_17 : decode cX4_limit 17 = .ok (.ifCond .eq 13, 3) := by decide +kernel
theorem dX4_limit_20 : decode cX4_limit 20 = .ok (.iload_n 2, 1) := by decide +kernel
theorem dX4_limit_21 : decode cX4_limit 21 = .ok (.iconst 0, 1) := by decide +kernel
theorem dX4_limit_22 : decode cX4_limit 22 = .ok (.bipush 99, 2) := by decide +kernel
theorem dX4_limit_24 : decode cX4_limit 24 = .ok (.invokestatic 45, 3) := by decide +kernel
theorem dX4_limit_27 : decode cX4_limit 27 = .ok (.ifCond .ne 5, 3) := by decide +kernel
theorem dX4_limit_30 : decode cX4_limit 30 = .ok (.iconst (-1), 1) := by decide +kernel
theorem dX4_limit_31 : decode cX4_limit 31 = .ok (.ireturn, 1) := by decide +kernel
theorem dX4_limit_32 : decode cX4_limit 32 = .ok (.aload_n 0, 1) := by decide +kernel
theorem dX4_limit_33 : decode cX4_limit 33 = .ok (.getfield 10, 3) := by decide +kernel
theorem dX4_limit_36 : decode cX4_limit 36 = .ok (.iload_n 1, 1) := by decide +kernel
theorem dX4_limit_37 : decode cX4_limit 37 = .ok (.iload_n 2, 1) := by decide +kernel
theorem dX4_limit_38 : decode cX4_limit 38 = .ok (.invokevirtual 71, 3) := by decide +kernel
theorem dX4_limit_41 : decode cX4_limit 41 = .ok (.ireturn, 1) := by decide +kernel
theorem dX4_clash_0 : decode cX4_clash 0 = .ok (.aload_n 0, 1) := by decide +kernel
theorem dX4_clash_1 : decode cX4_clash 1 = .ok (.getfield 21, 3) := by decide +kernel
theorem dX4_clash_4 : decode cX4_clash 4 = .ok (.getfield 42, 3) := by decide +kernel
theorem dX4_clash_7 : decode cX4_clash 7 = .ok (.ifCond .eq 6, 3) := by decide +kernel
theorem dX4_clash_10 : decode cX4_clash 10 = .ok (.bipush (-3), 2) := by decide +kernel
theorem dX4_clash_12 : decode cX4_clash 12 = .ok (.ireturn, 1) := by decide +kernel
theorem dX4_clash_13 : decode cX4_clash 13 = .ok (.iload_n 1, 1) := by decide +kernel
theorem dX4_clash_14 : decode cX4_clash 14 = .ok (.iconst 0, 1) := by decide +kernel
theorem dX4_clash_15 : decode cX4_clash 15 = .ok (.iconst 3, 1) := by decide +kernel
theorem dX4_clash_16 : decode cX4_clash 16 = .ok (.invokestatic 45, 3) := by decide +kernel
theorem dX4_clash_19 : decode cX4_clash 19 = .ok (.ifCond .eq 12, 3) := by decide +kernel
theorem dX4_clash_22 : decode cX4_clash 22 = .ok (.iload_n 2, 1) := by decide +kernel
theorem dX4_clash_23 : decode cX4_clash 23 = .ok (.iconst 0, 1) := by decide +kernel
theorem dX4_clash_24 : decode cX4_clash 24 = .ok (.iconst 3, 1) := by decide +kernel
theorem dX4_clash_25 : decode cX4_clash 25 = .ok (.invokestatic 45, 3) := by decide +kernel
theorem dX4_clash_28 : decode cX4_clash 28 = .ok (.ifCond .ne 5, 3) := by decide +kernel
theorem dX4_clash_31 : decode cX4_clash 31 = .ok (.iconst (-1), 1) := by decide +kernel
theorem dX4_clash_32 : decode cX4_clash 32 = .ok (.ireturn, 1) := by decide +kernel
theorem dX4_clash_33 : decode cX4_clash 33 = .ok (.aload_n 0, 1) := by decide +kernel
theorem dX4_clash_34 : decode cX4_clash 34 = .ok (.getfield 10, 3) := by decide +kernel
theorem dX4_clash_37 : decode cX4_clash 37 = .ok (.iload_n 1, 1) := by decide +kernel
theorem dX4_clash_38 : decode cX4_clash 38 = .ok (.iload_n 2, 1) := by decide +kernel
theorem dX4_clash_39 : decode cX4_clash 39 = .ok (.iload_n 3, 1) := by decide +kernel
theorem dX4_clash_40 : decode cX4_clash 40 = .ok (.invokevirtual 75, 3) := by decide +kernel
theorem dX4_clash_43 : decode cX4_clash 43 = .ok (.ifCond .eq 7, 3) := by decide +kernel
theorem dX4_clash_46 : decode cX4_clash 46 = .ok (.iconst 1, 1) := by decide +kernel
theorem dX4_clash_47 : decode cX4_clash 47 = .ok (.goto 4, 3) := by decide +kernel
theorem dX4_clash_50 : decode cX4_clash 50 = .ok (.iconst 0, 1) := by decide +kernel
theorem dX4_clash_51 : decode cX4_clash 51 = .ok (.ireturn, 1) := by decide +kernel
theorem dX4_rule_0 : decode cX4_rule 0 = .ok (.aload_n 0, 1) := by decide +kernel
theorem dX4_rule_1 : decode cX4_rule 1 = .ok (.getfield 21, 3) := by decide +kernel
theorem dX4_rule_4 : decode cX4_rule 4 = .ok (.getfield 42, 3) := by decide +kernel
theorem dX4_rule_7 : decode cX4_rule 7 = .ok (.ifCond .eq 6, 3) := by decide +kernel
theorem dX4_rule_10 : decode cX4_rule 10 = .ok (.bipush (-3), 2) := by decide +kernel
theorem dX4_rule_12 : decode cX4_rule 12 = .ok (.ireturn, 1) := by decide +kernel
theorem dX4_rule_13 : decode cX4_rule 13 = .ok (.iload_n 1, 1) := by decide +kernel
theorem dX4_rule_14 : decode cX4_rule 14 = .ok (.iconst 0, 1) := by decide +kernel
theorem dX4_rule_15 : decode cX4_rule 15 = .ok (.iconst 1, 1) := by decide +kernel
theorem dX4_rule_16 : decode cX4_rule 16 = .ok (.invokestatic 45, 3) := by decide +kernel
theorem dX4_rule_19 : decode cX4_rule 19 = .ok (.ifCond .eq 16, 3) := by decide +kernel
theorem dX4_rule_22 : decode cX4_rule 22 = .ok (.iload_n 2, 1) := by decide +kernel
theorem dX4_rule_23 : decode cX4_rule 23 = .ok (.iconst 0, 1) := by decide +kernel
theorem dX4_rule_24 : decode cX4_rule 24 = .ok (.getstatic 79, 3) := by decide +kernel
theorem dX4_rule_27 : decode cX4_rule 27 = .ok (.iload_n 1, 1) := by decide +kernel
theorem dX4_rule_28 : decode cX4_rule 28 = .ok (.iaload, 1) := by decide +kernel
theorem dX4_rule_29 : decode cX4_rule 29 = .ok (.invokestatic 45, 3) := by decide +kernel
theorem dX4_rule_32 : decode cX4_rule 32 = .ok (.ifCond .ne 5, 3) := by decide +kernel
theorem dX4_rule_35 : decode cX4_rule 35 = .ok (.iconst (-1), 1) := by decide +kernel
theorem dX4_rule_36 : decode cX4_rule 36 = .ok (.ireturn, 1) := by decide +kernel
theorem dX4_rule_37 : decode cX4_rule 37 = .ok (.aload_n 0, 1) := by decide +kernel
theorem dX4_rule_38 : decode cX4_rule 38 = .ok (.getfield 10, 3) := by decide +kernel
theorem dX4_rule_41 : decode cX4_rule 41 = .ok (.iload_n 1, 1) := by decide +kernel
theorem dX4_rule_42 : decode cX4_rule 42 = .ok (.iload_n 2, 1) := by decide +kernel
theorem dX4_rule_43 : decode cX4_rule 43 = .ok (.invokevirtual 82, 3) := by decide +kernel
theorem dX4_rule_46 : decode cX4_rule 46 = .ok (.ireturn, 1) := by decide +kernel
theorem dX4_stall_0 : decode cX4_stall 0 = .ok (.aload_n 0, 1) := by decide +kernel
theorem dX4_stall_1 : decode cX4_stall 1 = .ok (.getfield 21, 3) := by decide +kernel
theorem dX4_stall_4 : decode cX4_stall 4 = .ok (.getfield 42, 3) := by decide +kernel
theorem dX4_stall_7 : decode cX4_stall 7 = .ok (.ifCond .eq 6, 3) := by decide +kernel
theorem dX4_stall_10 : decode cX4_stall 10 = .ok (.bipush (-3), 2) := by decide +kernel
theorem dX4_stall_12 : decode cX4_stall 12 = .ok (.ireturn, 1) := by decide +kernel
theorem dX4_stall_13 : decode cX4_stall 13 = .ok (.iconst 0, 1) := by decide +kernel
theorem dX4_stall_14 : decode cX4_stall 14 = .ok (.iload_n 1, 1) := by decide +kernel
theorem dX4_stall_15 : decode cX4_stall 15 = .ok (.invokestatic 85, 3) := by decide +kernel
theorem dX4_stall_18 : decode cX4_stall 18 = .ok (.ifCond .eq 46, 3) := by decide +kernel
theorem dX4_stall_21 : decode cX4_stall 21 = .ok (.iconst 1, 1) := by decide +kernel
theorem dX4_stall_22 : decode cX4_stall 22 = .ok (.iload_n 2, 1) := by decide +kernel
theorem dX4_stall_23 : decode cX4_stall 23 = .ok (.invokestatic 85, 3) := by decide +kernel
theorem dX4_stall_26 : decode cX4_stall 26 = .ok (.ifCond .eq 38, 3) := by decide +kernel
theorem dX4_stall_29 : decode cX4_stall 29 = .ok (.iconst 2, 1) := by decide +kernel
theorem dX4_stall_30 : decode cX4_stall 30 = .ok (.iload_n 3, 1) := by decide +kernel
theorem dX4_stall_31 : decode cX4_stall 31 = .ok (.invokestatic 85, 3) := by decide +kernel
theorem dX4_stall_34 : decode cX4_stall 34 = .ok (.ifCond .eq 30, 3) := by decide +kernel
theorem dX4_stall_37 : decode cX4_stall 37 = .ok (.iconst 3, 1) := by decide +kernel
theorem dX4_stall_38 : decode cX4_stall 38 = .ok (.iload 4, 2) := by decide +kernel
theorem dX4_stall_40 : decode cX4_stall 40 = .ok (.invokestatic 85, 3) := by decide +kernel
theorem dX4_stall_43 : decode cX4_stall 43 = .ok (.ifCond .eq 21, 3) := by decide +kernel
theorem dX4_stall_46 : decode cX4_stall 46 = .ok (.iconst 4, 1) := by decide +kernel
theorem dX4_stall_47 : decode cX4_stall 47 = .ok (.iload 5, 2) := by decide +kernel
theorem dX4_stall_49 : decode cX4_stall 49 = .ok (.invokestatic 85, 3) := by decide +kernel
theorem dX4_stall_52 : decode cX4_stall 52 = .ok (.ifCond .eq 12, 3) := by decide +kernel
theorem dX4_stall_55 : decode cX4_stall 55 = .ok (.iconst 5, 1) := by decide +kernel
theorem dX4_stall_56 : decode cX4_stall 56 = .ok (.iload 6, 2) := by decide +kernel
theorem dX4_stall_58 : decode cX4_stall 58 = .ok (.invokestatic 85, 3) := by decide +kernel
theorem dX4_stall_61 : decode cX4_stall 61 = .ok (.ifCond .ne 5, 3) := by decide +kernel
theorem dX4_stall_64 : decode cX4_stall 64 = .ok (.iconst (-1), 1) := by decide +kernel
theorem dX4_stall_65 : decode cX4_stall 65 = .ok (.ireturn, 1) := by decide +kernel
theorem dX4_stall_66 : decode cX4_stall 66 = .ok (.aload_n 0, 1) := by decide +kernel
theorem dX4_stall_67 : decode cX4_stall 67 = .ok (.getfield 10, 3) := by decide +kernel
theorem dX4_stall_70 : decode cX4_stall 70 = .ok (.getfield 89, 3) := by decide +kernel
theorem dX4_stall_73 : decode cX4_stall 73 = .ok (.iconst 5, 1) := by decide +kernel
theorem dX4_stall_74 : decode cX4_stall 74 = .ok (.if_icmp .lt 6, 3) := by decide +kernel
theorem dX4_stall_77 : decode cX4_stall 77 = .ok (.bipush (-2), 2) := by decide +kernel
theorem dX4_stall_79 : decode cX4_stall 79 = .ok (.ireturn, 1) := by decide +kernel
theorem dX4_stall_80 : decode cX4_stall 80 = .ok (.aload_n 0, 1) := by decide +kernel
theorem dX4_stall_81 : decode cX4_stall 81 = .ok (.getfield 10, 3) := by decide +kernel
theorem dX4_stall_84 : decode cX4_stall 84 = .ok (.getfield 89, 3) := by decide +kernel
theorem dX4_stall_87 : decode cX4_stall 87 = .ok (.istore 7, 2) := by decide +kernel
theorem dX4_stall_89 : decode cX4_stall 89 = .ok (.aload_n 0, 1) := by decide +kernel
theorem dX4_stall_90 : decode cX4_stall 90 = .ok (.getfield 10, 3) := by decide +kernel
theorem dX4_stall_93 : decode cX4_stall 93 = .ok (.iload 7, 2) := by decide +kernel
theorem dX4_stall_95 : decode cX4_stall 95 = .ok (.iconst 1, 1) := by decide +kernel
theorem dX4_stall_96 : decode cX4_stall 96 = .ok (.iadd, 1) := by decide +kernel
