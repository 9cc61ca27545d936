theorem dX9_init_0 : decode cX9_init 0 = .ok (.aload_n 0, 1) := by decide +kernel
theorem dX9_init_1 : decode cX9_init 1 = .ok (.invokespecial 1, 3) := by decide +kernel
theorem dX9_init_4 : decode cX9_init 4 = .ok (.aload_n 0, 1) := by decide +kernel
theorem dX9_init_5 : decode cX9_init 5 = .ok (.bipush 102, 2) := by decide +kernel
theorem dX9_init_7 : decode cX9_init 7 = .ok (.newarray .int, 2) := by decide +kernel
theorem dX9_init_9 : decode cX9_init 9 = .ok (.putfield 7, 3) := by decide +kernel
theorem dX9_init_12 : decode cX9_init 12 = .ok (.aload_n 0, 1) := by decide +kernel
theorem dX9_init_13 : decode cX9_init 13 = .ok (.bipush 102, 2) := by decide +kernel
theorem dX9_init_15 : decode cX9_init 15 = .ok (.newarray .int, 2) := by decide +kernel
theorem dX9_init_17 : decode cX9_init 17 = .ok (.putfield 13, 3) := by decide +kernel
theorem dX9_init_20 : decode cX9_init 20 = .ok (.aload_n 0, 1) := by decide +kernel
theorem dX9_init_21 : decode cX9_init 21 = .ok (.bipush 102, 2) := by decide +kernel
theorem dX9_init_23 : decode cX9_init 23 = .ok (.newarray .int, 2) := by decide +kernel
theorem dX9_init_25 : decode cX9_init 25 = .ok (.putfield 16, 3) := by decide +kernel
theorem dX9_init_28 : decode cX9_init 28 = .ok (.aload_n 0, 1) := by decide +kernel
theorem dX9_init_29 : decode cX9_init 29 = .ok (.sipush 816, 3) := by decide +kernel
theorem dX9_init_32 : decode cX9_init 32 = .ok (.newarray .int, 2) := by decide +kernel
theorem dX9_init_34 : decode cX9_init 34 = .ok (.putfield 19, 3) := by decide +kernel
theorem dX9_init_37 : decode cX9_init 37 = .ok (.aload_n 0, 1) := by decide +kernel
theorem dX9_init_38 : decode cX9_init 38 = .ok (.bipush 102, 2) := by decide +kernel
theorem dX9_init_40 : decode cX9_init 40 = .ok (.newarray .int, 2) := by decide +kernel
theorem dX9_init_42 : decode cX9_init 42 = .ok (.putfield 22, 3) := by decide +kernel
theorem dX9_init_45 : decode cX9_init 45 = .ok (.aload_n 0, 1) := by decide +kernel
theorem dX9_init_46 : decode cX9_init 46 = .ok (.bipush 60, 2) := by decide +kernel
theorem dX9_init_48 : decode cX9_init 48 = .ok (.newarray .int, 2) := by decide +kernel
theorem dX9_init_50 : decode cX9_init 50 = .ok (.putfield 25, 3) := by decide +kernel
theorem dX9_init_53 : decode cX9_init 53 = .ok (.aload_n 0, 1) := by decide +kernel
theorem dX9_init_54 : decode cX9_init 54 = .ok (.sipush 240, 3) := by decide +kernel
theorem dX9_init_57 : decode cX9_init 57 = .ok (.newarray .int, 2) := by decide +kernel
theorem dX9_init_59 : decode cX9_init 59 = .ok (.putfield 28, 3) := by decide +kernel
theorem dX9_init_62 : decode cX9_init 62 = .ok (.aload_n 0, 1) := by decide +kernel
theorem dX9_init_63 : decode cX9_init 63 = .ok (.bipush 60, 2) := by decide +kernel
theorem dX9_init_65 : decode cX9_init 65 = .ok (.newarray .int, 2) := by decide +kernel
theorem dX9_init_67 : decode cX9_init 67 = .ok (.putfield 31, 3) := by decide +kernel
theorem dX9_init_70 : decode cX9_init 70 = .ok (.aload_n 0, 1) := by decide +kernel
theorem dX9_init_71 : decode cX9_init 71 = .ok (.iconst (-1), 1) := by decide +kernel
theorem dX9_init_72 : decode cX9_init 72 = .ok (.putfield 34, 3) := by decide +kernel
theorem dX9_init_75 : decode cX9_init 75 = .ok (.aload_n 0, 1) := by decide +kernel
theorem dX9_init_76 : decode cX9_init 76 = .ok (.getfield 7, 3) := by decide +kernel
theorem dX9_init_79 : decode cX9_init 79 = .ok (.iconst 3, 1) := by decide +kernel
theorem dX9_init_80 : decode cX9_init 80 = .ok (.iconst 3, 1) := by decide +kernel
theorem dX9_init_81 : decode cX9_init 81 = .ok (.iastore, 1) := by decide +kernel
theorem dX9_init_82 : decode cX9_init 82 = .ok (.return_, 1) := by decide +kernel
theorem dX9_thrown_0 : decode cX9_thrown 0 = .ok (.aload_n 0, 1) := by decide +kernel
theorem dX9_thrown_1 : decode cX9_thrown 1 = .ok (.getfield 38, 3) := by decide +kernel
theorem dX9_thrown_4 : decode cX9_thrown 4 = .ok (.ireturn, 1) := by decide +kernel
theorem dX9_fails_0 : decode cX9_fails 0 = .ok (.aload_n 0, 1) := by decide +kernel
theorem dX9_fails_1 : decode cX9_fails 1 = .ok (.iload_n 1, 1) := by decide +kernel
theorem dX9_fails_2 : decode cX9_fails 2 = .ok (.putfield 38, 3) := by decide +kernel
theorem dX9_fails_5 : decode cX9_fails 5 = .ok (.iconst 0, 1) := by decide +kernel
theorem dX9_fails_6 : decode cX9_fails 6 = .ok (.ireturn, 1) := by decide +kernel
theorem dX9_in_0 : decode cX9_in 0 = .ok (.iload_n 0, 1) := by decide +kernel
theorem dX9_in_1 : decode cX9_in 1 = .ok (.iload_n 1, 1) := by decide +kernel
theorem dX9_in_2 : decode cX9_in 2 = .ok (.if_icmp .lt 12, 3) := by decide +kernel
theorem dX9_in_5 : decode cX9_in 5 = .ok (.iload_n 0, 1) := by decide +kernel
theorem dX9_in_6 : decode cX9_in 6 = .ok (.iload_n 2, 1) := by decide +kernel
theorem dX9_in_7 : decode cX9_in 7 = .ok (.if_icmp .gt 7, 3) := by decide +kernel
theorem dX9_in_10 : decode cX9_in 10 = .ok (.iconst 1, 1) := by decide +kernel
theorem dX9_in_11 : decode cX9_in 11 = .ok (.goto 4, 3) := by decide +kernel
theorem dX9_in_14 : decode cX9_in 14 = .ok (.iconst 0, 1) := by decide +kernel
theorem dX9_in_15 : decode cX9_in 15 = .ok (.ireturn, 1) := by decide +kernel
theorem dX9_remembers_0 : decode cX9_remembers 0 = .ok (.aload_n 0, 1) := by decide +kernel
theorem dX9_remembers_1 : decode cX9_remembers 1 = .ok (.iconst 0, 1) := by decide +kernel
theorem dX9_remembers_2 : decode cX9_remembers 2 = .ok (.putfield 38, 3) := by decide +kernel
theorem dX9_remembers_5 : decode cX9_remembers 5 = .ok (.iconst 0, 1) := by decide +kernel
theorem dX9_remembers_6 : decode cX9_remembers 6 = .ok (.istore_n 1, 1) := by decide +kernel
theorem dX9_remembers_7 : decode cX9_remembers 7 = .ok (.iload_n 1, 1) := by decide +kernel
theorem dX9_remembers_8 : decode cX9_remembers 8 = .ok (.bipush 102, 2) := by decide +kernel
theorem dX9_remembers_10 : decode cX9_remembers 10 = .ok (.if_icmp .ge 21, 3) := by decide +kernel
theorem dX9_remembers_13 : decode cX9_remembers 13 = .ok (.aload_n 0, 1) := by decide +kernel
theorem dX9_remembers_14 : decode cX9_remembers 14 = .ok (.getfield 13, 3) := by decide +kernel
theorem dX9_remembers_17 : decode cX9_remembers 17 = .ok (.iload_n 1, 1) := by decide +kernel
theorem dX9_remembers_18 : decode cX9_remembers 18 = .ok (.aload_n 0, 1) := by decide +kernel
theorem dX9_remembers_19 : decode cX9_remembers 19 = .ok (.getfield 7, 3) := by decide +kernel
theorem dX9_remembers_22 : decode cX9_remembers 22 = .ok (.iload_n 1, 1) := by decide +kernel
theorem dX9_remembers_23 : decode cX9_remembers 23 = .ok (.iaload, 1) := by decide +kernel
theorem dX9_remembers_24 : decode cX9_remembers 24 = .ok (.iastore, 1) := by decide +kernel
theorem dX9_remembers_25 : decode cX9_remembers 25 = .ok (.iinc 1 1, 3) := by decide +kernel
theorem dX9_remembers_28 : decode cX9_remembers 28 = .ok (.goto (-21), 3) := by decide +kernel
theorem dX9_remembers_31 : decode cX9_remembers 31 = .ok (.return_, 1) := by decide +kernel
theorem dX9_changed_0 : decode cX9_changed 0 = .ok (.aload_n 0, 1) := by decide +kernel
theorem dX9_changed_1 : decode cX9_changed 1 = .ok (.getfield 41, 3) := by decide +kernel
theorem dX9_changed_4 : decode cX9_changed 4 = .ok (.bipush 8, 2) := by decide +kernel
theorem dX9_changed_6 : decode cX9_changed 6 = .ok (.if_icmp .ne 36, 3) := by decide +kernel
theorem dX9_changed_9 : decode cX9_changed 9 = .ok (.iconst 0, 1) := by decide +kernel
theorem dX9_changed_10 : decode cX9_changed 10 = .ok (.istore_n 2, 1) := by decide +kernel
theorem dX9_changed_11 : decode cX9_changed 11 = .ok (.iload_n 2, 1) := by decide +kernel
theorem dX9_changed_12 : decode cX9_changed 12 = .ok (.sipush 714, 3) := by decide +kernel
theorem dX9_changed_15 : decode cX9_changed 15 = .ok (.if_icmp .ge 24, 3) := by decide +kernel
theorem dX9_changed_18 : decode cX9_changed 18 = .ok (.aload_n 0, 1) := by decide +kernel
theorem dX9_changed_19 : decode cX9_changed 19 = .ok (.getfield 19, 3) := by decide +kernel
theorem dX9_changed_22 : decode cX9_changed 22 = .ok (.iload_n 2, 1) := by decide +kernel
theorem dX9_changed_23 : decode cX9_changed 23 = .ok (.aload_n 0, 1) := by decide +kernel
theorem dX9_changed_24 : decode cX9_changed 24 = .ok (.getfield 19, 3) := by decide +kernel
theorem dX9_changed_27 : decode cX9_changed 27 = .ok (.iload_n 2, 1) := by decide +kernel
theorem dX9_changed_28 : decode cX9_changed 28 = .ok (.bipush 102, 2) := by decide +kernel
theorem dX9_changed_30 : decode cX9_changed 30 = .ok (.iadd, 1) := by decide +kernel
theorem dX9_changed_31 : decode cX9_changed 31 = .ok (.iaload, 1) := by decide +kernel
theorem dX9_changed_32 : decode cX9_changed 32 = .ok (.iastore, 1) := by decide +kernel
theorem dX9_changed_33 : decode cX9_changed 33 = .ok (.iinc 2 1, 3) := by decide +kernel
theorem dX9_changed_36 : decode cX9_changed 36 = .ok (.goto (-25), 3) := by decide +kernel
theorem dX9_changed_39 : decode cX9_changed 39 = .ok (.goto 13, 3) := by decide +kernel
theorem dX9_changed_42 : decode cX9_changed 42 = .ok (.aload_n 0, 1) := by decide +kernel
theorem dX9_changed_43 : decode cX9_changed 43 = .ok (.dup, 1) := by decide +kernel
theorem dX9_changed_44 : decode cX9_changed 44 = .ok (.getfield 41, 3) := by decide +kernel
theorem dX9_changed_47 : decode cX9_changed 47 = .ok (.iconst 1, 1) := by decide +kernel
theorem dX9_changed_48 : decode cX9_changed 48 = .ok (.iadd, 1) := by decide +kernel
theorem dX9_changed_49 : decode cX9_changed 49 = .ok (.putfield 41, 3) := by decide +kernel
theorem dX9_changed_52 : decode cX9_changed 52 = .ok (.iconst 0, 1) := by decide +kernel
theorem dX9_changed_53 : decode cX9_changed 53 = .ok (.istore_n 2, 1) := by decide +kernel
theorem dX9_changed_54 : decode cX9_changed 54 = .ok (.iload_n 2, 1) := by decide +kernel
theorem dX9_changed_55 : decode cX9_changed 55 = .ok (.bipush 102, 2) := by decide +kernel
theorem dX9_changed_57 : decode cX9_changed 57 = .ok (.if_icmp .ge 31, 3) := by decide +kernel
theorem dX9_changed_60 : decode cX9_changed 60 = .ok (.aload_n 0, 1) := by decide +kernel
theorem dX9_changed_61 : decode cX9_changed 61 = .ok (.getfield 19, 3) := by decide +kernel
theorem dX9_changed_64 : decode cX9_changed 64 = .ok (.bipush 102, 2) := by decide +kernel
theorem dX9_changed_66 : decode cX9_changed 66 = .ok (.aload_n 0, 1) := by decide +kernel
theorem dX9_changed_67 : decode cX9_changed 67 = .ok (.getfield 41, 3) := by decide +kernel
theorem dX9_changed_70 : decode cX9_changed 70 = .ok (.iconst 1, 1) := by decide +kernel
theorem dX9_changed_71 : decode cX9_changed 71 = .ok (.isub, 1) := by decide +kernel
theorem dX9_changed_72 : decode cX9_changed 72 = .ok (.imul, 1) := by decide +kernel
theorem dX9_changed_73 : decode cX9_changed 73 = .ok (.iload_n 2, 1) := by decide +kernel
theorem dX9_changed_74 : decode cX9_changed 74 = .ok (.iadd, 1) := by decide +kernel
theorem dX9_changed_75 : decode cX9_changed 75 = .ok (.aload_n 0, 1) := by decide +kernel
theorem dX9_changed_76 : decode cX9_changed 76 = .ok (.getfield 13, 3) := by decide +kernel
theorem dX9_changed_79 : decode cX9_changed 79 = .ok (.iload_n 2, 1) := by decide +kernel
theorem dX9_changed_80 : decode cX9_changed 80 = .ok (.iaload, 1) := by decide +kernel
theorem dX9_changed_81 : decode cX9_changed 81 = .ok (.iastore, 1) := by decide +kernel
theorem dX9_changed_82 : decode cX9_changed 82 = .ok (.iinc 2 1, 3) := by decide +kernel
theorem dX9_changed_85 : decode cX9_changed 85 = .ok (.goto (-31), 3) := by decide +kernel
theorem dX9_changed_88 : decode cX9_changed 88 = .ok (.iload_n 1, 1) := by decide +kernel
theorem dX9_changed_89 : decode cX9_changed 89 = .ok (.ireturn, 1) := by decide +kernel
theorem dX9_rejected_0 : decode cX9_rejected 0 = .ok (.aload_n 0, 1) := by decide +kernel
theorem dX9_rejected_1 : decode cX9_rejected 1 = .ok (.iload_n 2, 1) := by decide +kernel
theorem dX9_rejected_2 : decode cX9_rejected 2 = .ok (.putfield 44, 3) := by decide +kernel
theorem dX9_rejected_5 : decode cX9_rejected 5 = .ok (.iload_n 1, 1) := by decide +kernel
theorem dX9_rejected_6 : decode cX9_rejected 6 = .ok (.ireturn, 1) := by decide +kernel
theorem dX9_done_0 : decode cX9_done 0 = .ok (.aload_n 0, 1) := by decide +kernel
theorem dX9_done_1 : decode cX9_done 1 = .ok (.iload_n 1, 1) := by decide +kernel
theorem dX9_done_2 : decode cX9_done 2 = .ok (.putfield 47, 3) := by decide +kernel
theorem dX9_done_5 : decode cX9_done 5 = .ok (.iconst 0, 1) := by decide +kernel
theorem dX9_done_6 : decode cX9_done 6 = .ok (.ireturn, 1) := by decide +kernel
theorem dX9_ends_0 : decode cX9_ends 0 = .ok (.iload_n 1, 1) := by decide +kernel
theorem dX9_ends_1 : decode cX9_ends 1 = .ok (.ifCond .ne 12, 3) := by decide +kernel
theorem dX9_ends_4 : decode cX9_ends 4 = .ok (.aload_n 0, 1) := by decide +kernel
theorem dX9_ends_5 : decode cX9_ends 5 = .ok (.aload_n 0, 1) := by decide +kernel
theorem dX9_ends_6 : decode cX9_ends 6 = .ok (.getfield 47, 3) := by decide +kernel
theorem dX9_ends_9 : decode cX9_ends 9 = .ok (.invokevirtual 50, 3) := by decide +kernel
theorem dX9_ends_12 : decode cX9_ends 12 = .ok (.ireturn, 1) := by decide +kernel
theorem dX9_ends_13 : decode cX9_ends 13 = .ok (.iload_n 1, 1) := by decide +kernel
theorem dX9_ends_14 : decode cX9_ends 14 = .ok (.ifCond .ge 10, 3) := by decide +kernel
theorem dX9_ends_17 : decode cX9_ends 17 = .ok (.aload_n 0, 1) := by decide +kernel
theorem dX9_ends_18 : decode cX9_ends 18 = .ok (.iload_n 1, 1) := by decide +kernel
theorem dX9_ends_19 : decode cX9_ends 19 = .ok (.ineg, 1) := by decide +kernel
theorem dX9_ends_20 : decode cX9_ends 20 = .ok (.invokevirtual 54, 3) := by decide +kernel
theorem dX9_ends_23 : decode cX9_ends 23 = .ok (.ireturn, 1) := by decide +kernel
theorem dX9_ends_24 : decode cX9_ends 24 = .ok (.aload_n 0, 1) := by decide +kernel
theorem dX9_ends_25 : decode cX9_ends 25 = .ok (.iload_n 1, 1) := by decide +kernel
theorem dX9_ends_26 : decode cX9_ends 26 = .ok (.putfield 57, 3) := by decide +kernel
theorem dX9_ends_29 : decode cX9_ends 29 = .ok (.aload_n 0, 1) := by decide +kernel
theorem dX9_ends_30 : decode cX9_ends 30 = .ok (.aload_n 0, 1) := by decide +kernel
theorem dX9_ends_31 : decode cX9_ends 31 = .ok (.getfield 44, 3) := by decide +kernel
theorem dX9_ends_34 : decode cX9_ends 34 = .ok (.putfield 60, 3) := by decide +kernel
theorem dX9_ends_37 : decode cX9_ends 37 = .ok (.aload_n 0, 1) := by decide +kernel
theorem dX9_ends_38 : decode cX9_ends 38 = .ok (.iconst 0, 1) := by decide +kernel
theorem dX9_ends_39 : decode cX9_ends 39 = .ok (.putfield 63, 3) := by decide +kernel
theorem dX9_ends_42 : decode cX9_ends 42 = .ok (.aload_n 0, 1) := by decide +kernel
theorem dX9_ends_43 : decode cX9_ends 43 = .ok (.iload_n 2, 1) := by decide +kernel
theorem dX9_ends_44 : decode cX9_ends 44 = .ok (.invokevirtual 54, 3) := by decide +kernel
theorem dX9_ends_47 : decode cX9_ends 47 = .ok (.ireturn, 1) := by decide +kernel
theorem dX9_isCell_0 : decode cX9_isCell 0 = .ok (.iload_n 0, 1) := by decide +kernel
theorem dX9_isCell_1 : decode cX9_isCell 1 = .ok (.iconst 0, 1) := by decide +kernel
theorem dX9_isCell_2 : decode cX9_isCell 2 = .ok (.iconst 5, 1) := by decide +kernel
theorem dX9_isCell_3 : decode cX9_isCell 3 = .ok (.invokestatic 66, 3) := by decide +kernel
theorem dX9_isCell_6 : decode cX9_isCell 6 = .ok (.ifCond .eq 16, 3) := by decide +kernel
theorem dX9_isCell_9 : decode cX9_isCell 9 = .ok (.iload_n 1, 1) := by decide +kernel
theorem dX9_isCell_10 : decode cX9_isCell 10 = .ok (.iconst 0, 1) := by decide +kernel
theorem dX9_isCell_11 : decode cX9_isCell 11 = .ok (.iconst 5, 1) := by decide +kernel
theorem dX9_isCell_12 : decode cX9_isCell 12 = .ok (.invokestatic 66, 3) := by decide +kernel
theorem dX9_isCell_15 : decode cX9_isCell 15 = .ok (.ifCond .eq 7, 3) := by decide +kernel
theorem dX9_isCell_18 : decode cX9_isCell 18 = .ok (.iconst 1, 1) := by decide +kernel
theorem dX9_isCell_19 : decode cX9_isCell 19 = .ok (.goto 4, 3) := by decide +kernel
theorem dX9_isCell_22 : decode cX9_isCell 22 = .ok (.iconst 0, 1) := by decide +kernel
theorem dX9_isCell_23 : decode cX9_isCell 23 = .ok (.ireturn, 1) := by decide +kernel
theorem dX9_isBench_0 : decode cX9_isBench 0 = .ok (.iload_n 1, 1) := by decide +kernel
theorem dX9_isBench_1 : decode cX9_isBench 1 = .ok (.iconst 0, 1) := by decide +kernel
theorem dX9_isBench_2 : decode cX9_isBench 2 = .ok (.aload_n 0, 1) := by decide +kernel
theorem dX9_isBench_3 : decode cX9_isBench 3 = .ok (.getfield 7, 3) := by decide +kernel
theorem dX9_isBench_6 : decode cX9_isBench 6 = .ok (.iconst 0, 1) := by decide +kernel
theorem dX9_isBench_7 : decode cX9_isBench 7 = .ok (.iaload, 1) := by decide +kernel
theorem dX9_isBench_8 : decode cX9_isBench 8 = .ok (.iconst 1, 1) := by decide +kernel
theorem dX9_isBench_9 : decode cX9_isBench 9 = .ok (.isub, 1) := by decide +kernel
theorem dX9_isBench_10 : decode cX9_isBench 10 = .ok (.invokestatic 66, 3) := by decide +kernel
theorem dX9_isBench_13 : decode cX9_isBench 13 = .ok (.ireturn, 1) := by decide +kernel
theorem dX9_isFountain_0 : decode cX9_isFountain 0 = .ok (.iload_n 1, 1) := by decide +kernel
theorem dX9_isFountain_1 : decode cX9_isFountain 1 = .ok (.iconst 0, 1) := by decide +kernel
theorem dX9_isFountain_2 : decode cX9_isFountain 2 = .ok (.aload_n 0, 1) := by decide +kernel
theorem dX9_isFountain_3 : decode cX9_isFountain 3 = .ok (.getfield 7, 3) := by decide +kernel
theorem dX9_isFountain_6 : decode cX9_isFountain 6 = .ok (.iconst 1, 1) := by decide +kernel
theorem dX9_isFountain_7 : decode cX9_isFountain 7 = .ok (.iaload, 1) := by decide +kernel
theorem dX9_isFountain_8 : decode cX9_isFountain 8 = .ok (.iconst 1, 1) := by decide +kernel
theorem dX9_isFountain_9 : decode cX9_isFountain 9 = .ok (.isub, 1) := by decide +kernel
theorem dX9_isFountain_10 : decode cX9_isFountain 10 = .ok (.invokestatic 66, 3) := by decide +kernel
theorem dX9_isFountain_13 : decode cX9_isFountain 13 = .ok (.ireturn, 1) := by decide +kernel
theorem dX9_isTenant_0 : decode cX9_isTenant 0 = .ok (.iload_n 1, 1) := by decide +kernel
theorem dX9_isTenant_1 : decode cX9_isTenant 1 = .ok (.iconst 0, 1) := by decide +kernel
theorem dX9_isTenant_2 : decode cX9_isTenant 2 = .ok (.aload_n 0, 1) := by decide +kernel
theorem dX9_isTenant_3 : decode cX9_isTenant 3 = .ok (.getfield 7, 3) := by decide +kernel
theorem dX9_isTenant_6 : decode cX9_isTenant 6 = .ok (.iconst 2, 1) := by decide +kernel
theorem dX9_isTenant_7 : decode cX9_isTenant 7 = .ok (.iaload, 1) := by decide +kernel
theorem dX9_isTenant_8 : decode cX9_isTenant 8 = .ok (.iconst 1, 1) := by decide +kernel
theorem dX9_isTenant_9 : decode cX9_isTenant 9 = .ok (.isub, 1) := by decide +kernel
theorem dX9_isTenant_10 : decode cX9_isTenant 10 = .ok (.invokestatic 66, 3) := by decide +kernel
theorem dX9_isTenant_13 : decode cX9_isTenant 13 = .ok (.ireturn, 1) := by decide +kernel
theorem dX9_bench_0 : decode cX9_bench 0 = .ok (.aload_n 0, 1) := by decide +kernel
theorem dX9_bench_1 : decode cX9_bench 1 = .ok (.getfield 7, 3) := by decide +kernel
theorem dX9_bench_4 : decode cX9_bench 4 = .ok (.bipush 10, 2) := by decide +kernel
theorem dX9_bench_6 : decode cX9_bench 6 = .ok (.bipush 6, 2) := by decide +kernel
theorem dX9_bench_8 : decode cX9_bench 8 = .ok (.iload_n 1, 1) := by decide +kernel
theorem dX9_bench_9 : decode cX9_bench 9 = .ok (.imul, 1) := by decide +kernel
theorem dX9_bench_10 : decode cX9_bench 10 = .ok (.iadd, 1) := by decide +kernel
theorem dX9_bench_11 : decode cX9_bench 11 = .ok (.iload_n 2, 1) := by decide +kernel
theorem dX9_bench_12 : decode cX9_bench 12 = .ok (.iadd, 1) := by decide +kernel
theorem dX9_bench_13 : decode cX9_bench 13 = .ok (.iaload, 1) := by decide +kernel
theorem dX9_bench_14 : decode cX9_bench 14 = .ok (.ireturn, 1) := by decide +kernel
theorem dX9_fountain_0 : decode cX9_fountain 0 = .ok (.aload_n 0, 1) := by decide +kernel
theorem dX9_fountain_1 : decode cX9_fountain 1 = .ok (.getfield 7, 3) := by decide +kernel
theorem dX9_fountain_4 : decode cX9_fountain 4 = .ok (.bipush 70, 2) := by decide +kernel
theorem dX9_fountain_6 : decode cX9_fountain 6 = .ok (.iconst 4, 1) := by decide +kernel
theorem dX9_fountain_7 : decode cX9_fountain 7 = .ok (.iload_n 1, 1) := by decide +kernel
theorem dX9_fountain_8 : decode cX9_fountain 8 = .ok (.imul, 1) := by decide +kernel
theorem dX9_fountain_9 : decode cX9_fountain 9 = .ok (.iadd, 1) := by decide +kernel
theorem dX9_fountain_10 : decode cX9_fountain 10 = .ok (.iload_n 2, 1) := by decide +kernel
theorem dX9_fountain_11 : decode cX9_fountain 11 = .ok (.iadd, 1) := by decide +kernel
theorem dX9_fountain_12 : decode cX9_fountain 12 = .ok (.iaload, 1) := by decide +kernel
theorem dX9_fountain_13 : decode cX9_fountain 13 = .ok (.ireturn, 1) := by decide +kernel
theorem dX9_tenant_0 : decode cX9_tenant 0 = .ok (.aload_n 0, 1) := by decide +kernel
theorem dX9_tenant_1 : decode cX9_tenant 1 = .ok (.getfield 7, 3) := by decide +kernel
theorem dX9_tenant_4 : decode cX9_tenant 4 = .ok (.bipush 86, 2) := by decide +kernel
theorem dX9_tenant_6 : decode cX9_tenant 6 = .ok (.iconst 2, 1) := by decide +kernel
theorem dX9_tenant_7 : decode cX9_tenant 7 = .ok (.iload_n 1, 1) := by decide +kernel
theorem dX9_tenant_8 : decode cX9_tenant 8 = .ok (.imul, 1) := by decide +kernel
theorem dX9_tenant_9 : decode cX9_tenant 9 = .ok (.iadd, 1) := by decide +kernel
theorem dX9_tenant_10 : decode cX9_tenant 10 = .ok (.iload_n 2, 1) := by decide +kernel
theorem dX9_tenant_11 : decode cX9_tenant 11 = .ok (.iadd, 1) := by decide +kernel
theorem dX9_tenant_12 : decode cX9_tenant 12 = .ok (.iaload, 1) := by decide +kernel
theorem dX9_tenant_13 : decode cX9_tenant 13 = .ok (.ireturn, 1) := by decide +kernel
theorem dX9_by_0 : decode cX9_by 0 = .ok (.aload_n 0, 1) := by decide +kernel
theorem dX9_by_1 : decode cX9_by 1 = .ok (.iload_n 1, 1) := by decide +kernel
theorem dX9_by_2 : decode cX9_by 2 = .ok (.iconst 3, 1) := by decide +kernel
theorem dX9_by_3 : decode cX9_by 3 = .ok (.invokevirtual 70, 3) := by decide +kernel
theorem dX9_by_6 : decode cX9_by 6 = .ok (.iconst 1, 1) := by decide +kernel
theorem dX9_by_7 : decode cX9_by 7 = .ok (.isub, 1) := by decide +kernel
theorem dX9_by_8 : decode cX9_by 8 = .ok (.ireturn, 1) := by decide +kernel
theorem dX9_benchBy_0 : decode cX9_benchBy 0 = .ok (.iconst 0, 1) := by decide +kernel
theorem dX9_benchBy_1 : decode cX9_benchBy 1 = .ok (.istore_n 2, 1) := by decide +kernel
theorem dX9_benchBy_2 : decode cX9_benchBy 2 = .ok (.iload_n 2, 1) := by decide +kernel
theorem dX9_benchBy_3 : decode cX9_benchBy 3 = .ok (.aload_n 0, 1) := by decide +kernel
theorem dX9_benchBy_4 : decode cX9_benchBy 4 = .ok (.getfield 7, 3) := by decide +kernel
theorem dX9_benchBy_7 : decode cX9_benchBy 7 = .ok (.iconst 0, 1) := by decide +kernel
theorem dX9_benchBy_8 : decode cX9_benchBy 8 = .ok (.iaload, 1) := by decide +kernel
theorem dX9_benchBy_9 : decode cX9_benchBy 9 = .ok (.if_icmp .ge 20, 3) := by decide +kernel
theorem dX9_benchBy_12 : decode cX9_benchBy 12 = .ok (.aload_n 0, 1) := by decide +kernel
theorem dX9_benchBy_13 : decode cX9_benchBy 13 = .ok (.iload_n 2, 1) := by decide +kernel
theorem dX9_benchBy_14 : decode cX9_benchBy 14 = .ok (.invokevirtual 74, 3) := by decide +kernel
theorem dX9_benchBy_17 : decode cX9_benchBy 17 = .ok (.iload_n 1, 1) := by decide +kernel
theorem dX9_benchBy_18 : decode cX9_benchBy 18 = .ok (.if_icmp .ne 5, 3) := by decide +kernel
theorem dX9_benchBy_21 : decode cX9_benchBy 21 = .ok (.iload_n 2, 1) := by decide +kernel
theorem dX9_benchBy_22 : decode cX9_benchBy 22 = .ok (.ireturn, 1) := by decide +kernel
theorem dX9_benchBy_23 : decode cX9_benchBy 23 = .ok (.iinc 2 1, 3) := by decide +kernel
theorem dX9_benchBy_26 : decode cX9_benchBy 26 = .ok (.goto (-24), 3) := by decide +kernel
theorem dX9_benchBy_29 : decode cX9_benchBy 29 = .ok (.iconst (-1), 1) := by decide +kernel
theorem dX9_benchBy_30 : decode cX9_benchBy 30 = .ok (.ireturn, 1) := by decide +kernel
theorem dX9_holder_0 : decode cX9_holder 0 = .ok (.iconst 0, 1) := by decide +kernel
theorem dX9_holder_1 : decode cX9_holder 1 = .ok (.istore_n 3, 1) := by decide +kernel
theorem dX9_holder_2 : decode cX9_holder 2 = .ok (.iload_n 3, 1) := by decide +kernel
theorem dX9_holder_3 : decode cX9_holder 3 = .ok (.aload_n 0, 1) := by decide +kernel
theorem dX9_holder_4 : decode cX9_holder 4 = .ok (.getfield 7, 3) := by decide +kernel
theorem dX9_holder_7 : decode cX9_holder 7 = .ok (.iconst 0, 1) := by decide +kernel
theorem dX9_holder_8 : decode cX9_holder 8 = .ok (.iaload, 1) := by decide +kernel
theorem dX9_holder_9 : decode cX9_holder 9 = .ok (.if_icmp .ge 31, 3) := by decide +kernel
theorem dX9_holder_12 : decode cX9_holder 12 = .ok (.aload_n 0, 1) := by decide +kernel
theorem dX9_holder_13 : decode cX9_holder 13 = .ok (.iload_n 3, 1) := by decide +kernel
theorem dX9_holder_14 : decode cX9_holder 14 = .ok (.iconst 0, 1) := by decide +kernel
theorem dX9_holder_15 : decode cX9_holder 15 = .ok (.invokevirtual 70, 3) := by decide +kernel
theorem dX9_holder_18 : decode cX9_holder 18 = .ok (.iload_n 1, 1) := by decide +kernel
theorem dX9_holder_19 : decode cX9_holder 19 = .ok (.if_icmp .ne 15, 3) := by decide +kernel
theorem dX9_holder_22 : decode cX9_holder 22 = .ok (.aload_n 0, 1) := by decide +kernel
theorem dX9_holder_23 : decode cX9_holder 23 = .ok (.iload_n 3, 1) := by decide +kernel
theorem dX9_holder_24 : decode cX9_holder 24 = .ok (.iconst 1, 1) := by decide +kernel
theorem dX9_holder_25 : decode cX9_holder 25 = .ok (.invokevirtual 70, 3) := by decide +kernel
theorem dX9_holder_28 : decode cX9_holder 28 = .ok (.iload_n 2, 1) := by decide +kernel
theorem dX9_holder_29 : decode cX9_holder 29 = .ok (.if_icmp .ne 5, 3) := by decide +kernel
theorem dX9_holder_32 : decode cX9_holder 32 = .ok (.iload_n 3, 1) := by decide +kernel
theorem dX9_holder_33 : decode cX9_holder 33 = .ok (.ireturn, 1) := by decide +kernel
theorem dX9_holder_34 : decode cX9_holder 34 = .ok (.iinc 3 1, 3) := by decide +kernel
theorem dX9_holder_37 : decode cX9_holder 37 = .ok (.goto (-35), 3) := by decide +kernel
theorem dX9_holder_40 : decode cX9_holder 40 = .ok (.iconst 0, 1) := by decide +kernel
theorem dX9_holder_41 : decode cX9_holder 41 = .ok (.istore_n 3, 1) := by decide +kernel
theorem dX9_holder_42 : decode cX9_holder 42 = .ok (.iload_n 3, 1) := by decide +kernel
theorem dX9_holder_43 : decode cX9_holder 43 = .ok (.aload_n 0, 1) := by decide +kernel
theorem dX9_holder_44 : decode cX9_holder 44 = .ok (.getfield 7, 3) := by decide +kernel
theorem dX9_holder_47 : decode cX9_holder 47 = .ok (.iconst 1, 1) := by decide +kernel
theorem dX9_holder_48 : decode cX9_holder 48 = .ok (.iaload, 1) := by decide +kernel
theorem dX9_holder_49 : decode cX9_holder 49 = .ok (.if_icmp .ge 34, 3) := by decide +kernel
theorem dX9_holder_52 : decode cX9_holder 52 = .ok (.aload_n 0, 1) := by decide +kernel
theorem dX9_holder_53 : decode cX9_holder 53 = .ok (.iload_n 3, 1) := by decide +kernel
theorem dX9_holder_54 : decode cX9_holder 54 = .ok (.iconst 0, 1) := by decide +kernel
theorem dX9_holder_55 : decode cX9_holder 55 = .ok (.invokevirtual 77, 3) := by decide +kernel
theorem dX9_holder_58 : decode cX9_holder 58 = .ok (.iload_n 1, 1) := by decide +kernel
theorem dX9_holder_59 : decode cX9_holder 59 = .ok (.if_icmp .ne 18, 3) := by decide +kernel
theorem dX9_holder_62 : decode cX9_holder 62 = .ok (.aload_n 0, 1) := by decide +kernel
theorem dX9_holder_63 : decode cX9_holder 63 = .ok (.iload_n 3, 1) := by decide +kernel
theorem dX9_holder_64 : decode cX9_holder 64 = .ok (.iconst 1, 1) := by decide +kernel
theorem dX9_holder_65 : decode cX9_holder 65 = .ok (.invokevirtual 77, 3) := by decide +kernel
theorem dX9_holder_68 : decode cX9_holder 68 = .ok (.iload_n 2, 1) := by decide +kernel
theorem dX9_holder_69 : decode cX9_holder 69 = .ok (.if_icmp .ne 8, 3) := by decide +kernel
theorem dX9_holder_72 : decode cX9_holder 72 = .ok (.bipush 10, 2) := by decide +kernel
theorem dX9_holder_74 : decode cX9_holder 74 = .ok (.iload_n 3, 1) := by decide +kernel
theorem dX9_holder_75 : decode cX9_holder 75 = .ok (.iadd, 1) := by decide +kernel
theorem dX9_holder_76 : decode cX9_holder 76 = .ok (.ireturn, 1) := by decide +kernel
theorem dX9_holder_77 : decode cX9_holder 77 = .ok (.iinc 3 1, 3) := by decide +kernel
theorem dX9_holder_80 : decode cX9_holder 80 = .ok (.goto (-38), 3) := by decide +kernel
theorem dX9_holder_83 : decode cX9_holder 83 = .ok (.iconst (-1), 1) := by decide +kernel
theorem dX9_holder_84 : decode cX9_holder 84 = .ok (.ireturn, 1) := by decide +kernel
theorem dX9_size_0 : decode cX9_size 0 = .ok (.iload_n 0, 1) := by decide +kernel
theorem dX9_size_1 : decode cX9_size 1 = .ok (.ifCond .ge 8, 3) := by decide +kernel
theorem dX9_size_4 : decode cX9_size 4 = .ok (.iload_n 0, 1) := by decide +kernel
theorem dX9_size_5 : decode cX9_size 5 = .ok (.ineg, 1) := by decide +kernel
theorem dX9_size_6 : decode cX9_size 6 = .ok (.goto 4, 3) := by decide +kernel
theorem dX9_size_9 : decode cX9_size 9 = .ok (.iload_n 0, 1) := by decide +kernel
theorem dX9_size_10 : decode cX9_size 10 = .ok (.ireturn, 1) := by decide +kernel
theorem dX9_noise_0 : decode cX9_noise 0 = .ok (.iconst 0, 1) := by decide +kernel
theorem dX9_noise_1 : decode cX9_noise 1 = .ok (.istore_n 3, 1) := by decide +kernel
theorem dX9_noise_2 : decode cX9_noise 2 = .ok (.iconst 0, 1) := by decide +kernel
theorem dX9_noise_3 : decode cX9_noise 3 = .ok (.istore 4, 2) := by decide +kernel
theorem dX9_noise_5 : decode cX9_noise 5 = .ok (.iload 4, 2) := by decide +kernel
theorem dX9_noise_7 : decode cX9_noise 7 = .ok (.aload_n 0, 1) := by decide +kernel
theorem dX9_noise_8 : decode cX9_noise 8 = .ok (.getfield 7, 3) := by decide +kernel
theorem dX9_noise_11 : decode cX9_noise 11 = .ok (.iconst 1, 1) := by decide +kernel
theorem dX9_noise_12 : decode cX9_noise 12 = .ok (.iaload, 1) := by decide +kernel
theorem dX9_noise_13 : decode cX9_noise 13 = .ok (.if_icmp .ge 75, 3) := by decide +kernel
theorem dX9_noise_16 : decode cX9_noise 16 = .ok (.aload_n 0, 1) := by decide +kernel
theorem dX9_noise_17 : decode cX9_noise 17 = .ok (.iload 4, 2) := by decide +kernel
theorem dX9_noise_19 : decode cX9_noise 19 = .ok (.iconst 0, 1) := by decide +kernel
theorem dX9_noise_20 : decode cX9_noise 20 = .ok (.invokevirtual 77, 3) := by decide +kernel
theorem dX9_noise_23 : decode cX9_noise 23 = .ok (.iload_n 1, 1) := by decide +kernel
theorem dX9_noise_24 : decode cX9_noise 24 = .ok (.isub, 1) := by decide +kernel
theorem dX9_noise_25 : decode cX9_noise 25 = .ok (.invokestatic 80, 3) := by decide +kernel
theorem dX9_noise_28 : decode cX9_noise 28 = .ok (.aload_n 0, 1) := by decide +kernel
theorem dX9_noise_29 : decode cX9_noise 29 = .ok (.iload 4, 2) := by decide +kernel
theorem dX9_noise_31 : decode cX9_noise 31 = .ok (.iconst 1, 1) := by decide +kernel
theorem dX9_noise_32 : decode cX9_noise 32 = .ok (.invokevirtual 77, 3) := by decide +kernel
theorem dX9_noise_35 : decode cX9_noise 35 = .ok (.iload_n 2, 1) := by decide +kernel
theorem dX9_noise_36 : decode cX9_noise 36 = .ok (.isub, 1) := by decide +kernel
theorem dX9_noise_37 : decode cX9_noise 37 = .ok (.invokestatic 80, 3) := by decide +kernel
theorem dX9_noise_40 : decode cX9_noise 40 = .ok (.iadd, 1) := by decide +kernel
theorem dX9_noise_41 : decode cX9_noise 41 = .ok (.istore 5, 2) := by decide +kernel
theorem dX9_noise_43 : decode cX9_noise 43 = .ok (.aload_n 0, 1) := by decide +kernel
theorem dX9_noise_44 : decode cX9_noise 44 = .ok (.iload 4, 2) := by decide +kernel
theorem dX9_noise_46 : decode cX9_noise 46 = .ok (.iconst 2, 1) := by decide +kernel
theorem dX9_noise_47 : decode cX9_noise 47 = .ok (.invokevirtual 77, 3) := by decide +kernel
theorem dX9_noise_50 : decode cX9_noise 50 = .ok (.iconst 2, 1) := by decide +kernel
theorem dX9_noise_51 : decode cX9_noise 51 = .ok (.iload 5, 2) := by decide +kernel
theorem dX9_noise_53 : decode cX9_noise 53 = .ok (.imul, 1) := by decide +kernel
theorem dX9_noise_54 : decode cX9_noise 54 = .ok (.isub, 1) := by decide +kernel
theorem dX9_noise_55 : decode cX9_noise 55 = .ok (.istore 6, 2) := by decide +kernel
theorem dX9_noise_57 : decode cX9_noise 57 = .ok (.iload_n 3, 1) := by decide +kernel
theorem dX9_noise_58 : decode cX9_noise 58 = .ok (.aload_n 0, 1) := by decide +kernel
theorem dX9_noise_59 : decode cX9_noise 59 = .ok (.iload 4, 2) := by decide +kernel
theorem dX9_noise_61 : decode cX9_noise 61 = .ok (.iconst 3, 1) := by decide +kernel
theorem dX9_noise_62 : decode cX9_noise 62 = .ok (.invokevirtual 77, 3) := by decide +kernel
theorem dX9_noise_65 : decode cX9_noise 65 = .ok (.iconst 1, 1) := by decide +kernel
theorem dX9_noise_66 : decode cX9_noise 66 = .ok (.if_icmp .ne 13, 3) := by decide +kernel
theorem dX9_noise_69 : decode cX9_noise 69 = .ok (.iload 6, 2) := by decide +kernel
theorem dX9_noise_71 : decode cX9_noise 71 = .ok (.ifCond .le 8, 3) := by decide +kernel
theorem dX9_noise_74 : decode cX9_noise 74 = .ok (.iload 6, 2) := by decide +kernel
theorem dX9_noise_76 : decode cX9_noise 76 = .ok (.goto 4, 3) := by decide +kernel
theorem dX9_noise_79 : decode cX9_noise 79 = .ok (.iconst 0, 1) := by decide +kernel
theorem dX9_noise_80 : decode cX9_noise 80 = .ok (.iadd, 1) := by decide +kernel
theorem dX9_noise_81 : decode cX9_noise 81 = .ok (.istore_n 3, 1) := by decide +kernel
theorem dX9_noise_82 : decode cX9_noise 82 = .ok (.iinc 4 1, 3) := by decide +kernel
theorem dX9_noise_85 : decode cX9_noise 85 = .ok (.goto (-80), 3) := by decide +kernel
theorem dX9_noise_88 : decode cX9_noise 88 = .ok (.iload_n 3, 1) := by decide +kernel
theorem dX9_noise_89 : decode cX9_noise 89 = .ok (.ireturn, 1) := by decide +kernel
theorem dX9_noiseOf_0 : decode cX9_noiseOf 0 = .ok (.aload_n 0, 1) := by decide +kernel
theorem dX9_noiseOf_1 : decode cX9_noiseOf 1 = .ok (.aload_n 0, 1) := by decide +kernel
theorem dX9_noiseOf_2 : decode cX9_noiseOf 2 = .ok (.iload_n 1, 1) := by decide +kernel
theorem dX9_noiseOf_3 : decode cX9_noiseOf 3 = .ok (.iconst 0, 1) := by decide +kernel
theorem dX9_noiseOf_4 : decode cX9_noiseOf 4 = .ok (.invokevirtual 70, 3) := by decide +kernel
theorem dX9_noiseOf_7 : decode cX9_noiseOf 7 = .ok (.aload_n 0, 1) := by decide +kernel
theorem dX9_noiseOf_8 : decode cX9_noiseOf 8 = .ok (.iload_n 1, 1) := by decide +kernel
theorem dX9_noiseOf_9 : decode cX9_noiseOf 9 = .ok (.iconst 1, 1) := by decide +kernel
theorem dX9_noiseOf_10 : decode cX9_noiseOf 10 = .ok (.invokevirtual 70, 3) := by decide +kernel
theorem dX9_noiseOf_13 : decode cX9_noiseOf 13 = .ok (.invokevirtual 83, 3) := by decide +kernel
theorem dX9_noiseOf_16 : decode cX9_noiseOf 16 = .ok (.ireturn, 1) := by decide +kernel
theorem dX9_quiet_0 : decode cX9_quiet 0 = .ok (.aload_n 0, 1) := by decide +kernel
theorem dX9_quiet_1 : decode cX9_quiet 1 = .ok (.iload_n 1, 1) := by decide +kernel
theorem dX9_quiet_2 : decode cX9_quiet 2 = .ok (.invokevirtual 86, 3) := by decide +kernel
theorem dX9_quiet_5 : decode cX9_quiet 5 = .ok (.aload_n 0, 1) := by decide +kernel
theorem dX9_quiet_6 : decode cX9_quiet 6 = .ok (.getfield 7, 3) := by decide +kernel
theorem dX9_quiet_9 : decode cX9_quiet 9 = .ok (.iconst 3, 1) := by decide +kernel
theorem dX9_quiet_10 : decode cX9_quiet 10 = .ok (.iaload, 1) := by decide +kernel
theorem dX9_quiet_11 : decode cX9_quiet 11 = .ok (.if_icmp .gt 7, 3) := by decide +kernel
theorem dX9_quiet_14 : decode cX9_quiet 14 = .ok (.iconst 1, 1) := by decide +kernel
theorem dX9_quiet_15 : decode cX9_quiet 15 = .ok (.goto 4, 3) := by decide +kernel
theorem dX9_quiet_18 : decode cX9_quiet 18 = .ok (.iconst 0, 1) := by decide +kernel
theorem dX9_quiet_19 : decode cX9_quiet 19 = .ok (.ireturn, 1) := by decide +kernel
theorem dX9_rent_0 : decode cX9_rent 0 = .ok (.aload_n 0, 1) := by decide +kernel
theorem dX9_rent_1 : decode cX9_rent 1 = .ok (.iload_n 1, 1) := by decide +kernel
theorem dX9_rent_2 : decode cX9_rent 2 = .ok (.iconst 2, 1) := by decide +kernel
theorem dX9_rent_3 : decode cX9_rent 3 = .ok (.invokevirtual 70, 3) := by decide +kernel
theorem dX9_rent_6 : decode cX9_rent 6 = .ok (.aload_n 0, 1) := by decide +kernel
theorem dX9_rent_7 : decode cX9_rent 7 = .ok (.iload_n 1, 1) := by decide +kernel
theorem dX9_rent_8 : decode cX9_rent 8 = .ok (.invokevirtual 86, 3) := by decide +kernel
theorem dX9_rent_11 : decode cX9_rent 11 = .ok (.isub, 1) := by decide +kernel
theorem dX9_rent_12 : decode cX9_rent 12 = .ok (.istore_n 2, 1) := by decide +kernel
theorem dX9_rent_13 : decode cX9_rent 13 = .ok (.iload_n 2, 1) := by decide +kernel
theorem dX9_rent_14 : decode cX9_rent 14 = .ok (.iconst 1, 1) := by decide +kernel
theorem dX9_rent_15 : decode cX9_rent 15 = .ok (.if_icmp .ge 7, 3) := by decide +kernel
theorem dX9_rent_18 : decode cX9_rent 18 = .ok (.iconst 1, 1) := by decide +kernel
theorem dX9_rent_19 : decode cX9_rent 19 = .ok (.goto 4, 3) := by decide +kernel
theorem dX9_rent_22 : decode cX9_rent 22 = .ok (.iload_n 2, 1) := by decide +kernel
theorem dX9_rent_23 : decode cX9_rent 23 = .ok (.ireturn, 1) := by decide +kernel
theorem dX9_addsBench_0 : decode cX9_addsBench 0 = .ok (.iload_n 1, 1) := by decide +kernel
theorem dX9_addsBench_1 : decode cX9_addsBench 1 = .ok (.iload_n 2, 1) := by decide +kernel
theorem dX9_addsBench_2 : decode cX9_addsBench 2 = .ok (.invokestatic 89, 3) := by decide +kernel
theorem dX9_addsBench_5 : decode cX9_addsBench 5 = .ok (.ifCond .ne 5, 3) := by decide +kernel
theorem dX9_addsBench_8 : decode cX9_addsBench 8 = .ok (.iconst (-1), 1) := by decide +kernel
theorem dX9_addsBench_9 : decode cX9_addsBench 9 = .ok (.ireturn, 1) := by decide +kernel
theorem dX9_addsBench_10 : decode cX9_addsBench 10 = .ok (.iload_n 3, 1) := by decide +kernel
theorem dX9_addsBench_11 : decode cX9_addsBench 11 = .ok (.iconst 1, 1) := by decide +kernel
theorem dX9_addsBench_12 : decode cX9_addsBench 12 = .ok (.bipush 20, 2) := by decide +kernel
theorem dX9_addsBench_14 : decode cX9_addsBench 14 = .ok (.invokestatic 66, 3) := by decide +kernel
theorem dX9_addsBench_17 : decode cX9_addsBench 17 = .ok (.ifCond .ne 6, 3) := by decide +kernel
theorem dX9_addsBench_20 : decode cX9_addsBench 20 = .ok (.bipush (-2), 2) := by decide +kernel
theorem dX9_addsBench_22 : decode cX9_addsBench 22 = .ok (.ireturn, 1) := by decide +kernel
theorem dX9_addsBench_23 : decode cX9_addsBench 23 = .ok (.aload_n 0, 1) := by decide +kernel
theorem dX9_addsBench_24 : decode cX9_addsBench 24 = .ok (.getfield 7, 3) := by decide +kernel
theorem dX9_addsBench_27 : decode cX9_addsBench 27 = .ok (.iconst 0, 1) := by decide +kernel
theorem dX9_addsBench_28 : decode cX9_addsBench 28 = .ok (.iaload, 1) := by decide +kernel
theorem dX9_addsBench_29 : decode cX9_addsBench 29 = .ok (.istore 4, 2) := by decide +kernel
theorem dX9_addsBench_31 : decode cX9_addsBench 31 = .ok (.iload 4, 2) := by decide +kernel
theorem dX9_addsBench_33 : decode cX9_addsBench 33 = .ok (.bipush 10, 2) := by decide +kernel
theorem dX9_addsBench_35 : decode cX9_addsBench 35 = .ok (.if_icmp .ne 11, 3) := by decide +kernel
theorem dX9_addsBench_38 : decode cX9_addsBench 38 = .ok (.aload_n 0, 1) := by decide +kernel
theorem dX9_addsBench_39 : decode cX9_addsBench 39 = .ok (.iconst 1, 1) := by decide +kernel
theorem dX9_addsBench_40 : decode cX9_addsBench 40 = .ok (.bipush 10, 2) := by decide +kernel
theorem dX9_addsBench_42 : decode cX9_addsBench 42 = .ok (.invokevirtual 93, 3) := by decide +kernel
theorem dX9_addsBench_45 : decode cX9_addsBench 45 = .ok (.ireturn, 1) := by decide +kernel
theorem dX9_addsBench_46 : decode cX9_addsBench 46 = .ok (.aload_n 0, 1) := by decide +kernel
theorem dX9_addsBench_47 : decode cX9_addsBench 47 = .ok (.iload_n 1, 1) := by decide +kernel
theorem dX9_addsBench_48 : decode cX9_addsBench 48 = .ok (.iload_n 2, 1) := by decide +kernel
theorem dX9_addsBench_49 : decode cX9_addsBench 49 = .ok (.invokevirtual 96, 3) := by decide +kernel
theorem dX9_addsBench_52 : decode cX9_addsBench 52 = .ok (.iconst (-1), 1) := by decide +kernel
theorem dX9_addsBench_53 : decode cX9_addsBench 53 = .ok (.if_icmp .eq 15, 3) := by decide +kernel
theorem dX9_addsBench_56 : decode cX9_addsBench 56 = .ok (.aload_n 0, 1) := by decide +kernel
theorem dX9_addsBench_57 : decode cX9_addsBench 57 = .ok (.iconst 4, 1) := by decide +kernel
theorem dX9_addsBench_58 : decode cX9_addsBench 58 = .ok (.aload_n 0, 1) := by decide +kernel
theorem dX9_addsBench_59 : decode cX9_addsBench 59 = .ok (.iload_n 1, 1) := by decide +kernel
theorem dX9_addsBench_60 : decode cX9_addsBench 60 = .ok (.iload_n 2, 1) := by decide +kernel
theorem dX9_addsBench_61 : decode cX9_addsBench 61 = .ok (.invokevirtual 96, 3) := by decide +kernel
theorem dX9_addsBench_64 : decode cX9_addsBench 64 = .ok (.invokevirtual 93, 3) := by decide +kernel
theorem dX9_addsBench_67 : decode cX9_addsBench 67 = .ok (.ireturn, 1) := by decide +kernel
theorem dX9_addsBench_68 : decode cX9_addsBench 68 = .ok (.iconst 0, 1) := by decide +kernel
theorem dX9_addsBench_69 : decode cX9_addsBench 69 = .ok (.istore 5, 2) := by decide +kernel
theorem dX9_addsBench_71 : decode cX9_addsBench 71 = .ok (.iload 5, 2) := by decide +kernel
theorem dX9_addsBench_73 : decode cX9_addsBench 73 = .ok (.bipush 6, 2) := by decide +kernel
theorem dX9_addsBench_75 : decode cX9_addsBench 75 = .ok (.if_icmp .ge 26, 3) := by decide +kernel
theorem dX9_addsBench_78 : decode cX9_addsBench 78 = .ok (.aload_n 0, 1) := by decide +kernel
theorem dX9_addsBench_79 : decode cX9_addsBench 79 = .ok (.getfield 7, 3) := by decide +kernel
theorem dX9_addsBench_82 : decode cX9_addsBench 82 = .ok (.bipush 10, 2) := by decide +kernel
theorem dX9_addsBench_84 : decode cX9_addsBench 84 = .ok (.bipush 6, 2) := by decide +kernel
theorem dX9_addsBench_86 : decode cX9_addsBench 86 = .ok (.iload 4, 2) := by decide +kernel
theorem dX9_addsBench_88 : decode cX9_addsBench 88 = .ok (.imul, 1) := by decide +kernel
theorem dX9_addsBench_89 : decode cX9_addsBench 89 = .ok (.iadd, 1) := by decide +kernel
theorem dX9_addsBench_90 : decode cX9_addsBench 90 = .ok (.iload 5, 2) := by decide +kernel
theorem dX9_addsBench_92 : decode cX9_addsBench 92 = .ok (.iadd, 1) := by decide +kernel
theorem dX9_addsBench_93 : decode cX9_addsBench 93 = .ok (.iconst 0, 1) := by decide +kernel
theorem dX9_addsBench_94 : decode cX9_addsBench 94 = .ok (.iastore, 1) := by decide +kernel
theorem dX9_addsBench_95 : decode cX9_addsBench 95 = .ok (.iinc 5 1, 3) := by decide +kernel
theorem dX9_addsBench_98 : decode cX9_addsBench 98 = .ok (.goto (-27), 3) := by decide +kernel
theorem dX9_addsBench_101 : decode cX9_addsBench 101 = .ok (.aload_n 0, 1) := by decide +kernel
theorem dX9_addsBench_102 : decode cX9_addsBench 102 = .ok (.getfield 7, 3) := by decide +kernel
theorem dX9_addsBench_105 : decode cX9_addsBench 105 = .ok (.bipush 10, 2) := by decide +kernel
theorem dX9_addsBench_107 : decode cX9_addsBench 107 = .ok (.bipush 6, 2) := by decide +kernel
theorem dX9_addsBench_109 : decode cX9_addsBench 109 = .ok (.iload 4, 2) := by decide +kernel
theorem dX9_addsBench_111 : decode cX9_addsBench 111 = .ok (.imul, 1) := by decide +kernel
theorem dX9_addsBench_112 : decode cX9_addsBench 112 = .ok (.iadd, 1) := by decide +kernel
theorem dX9_addsBench_113 : decode cX9_addsBench 113 = .ok (.iconst 0, 1) := by decide +kernel
theorem dX9_addsBench_114 : decode cX9_addsBench 114 = .ok (.iadd, 1) := by decide +kernel
theorem dX9_addsBench_115 : decode cX9_addsBench 115 = .ok (.iload_n 1, 1) := by decide +kernel
theorem dX9_addsBench_116 : decode cX9_addsBench 116 = .ok (.iastore, 1) := by decide +kernel
theorem dX9_addsBench_117 : decode cX9_addsBench 117 = .ok (.aload_n 0, 1) := by decide +kernel
theorem dX9_addsBench_118 : decode cX9_addsBench 118 = .ok (.getfield 7, 3) := by decide +kernel
theorem dX9_addsBench_121 : decode cX9_addsBench 121 = .ok (.bipush 10, 2) := by decide +kernel
theorem dX9_addsBench_123 : decode cX9_addsBench 123 = .ok (.bipush 6, 2) := by decide +kernel
theorem dX9_addsBench_125 : decode cX9_addsBench 125 = .ok (.iload 4, 2) := by decide +kernel
theorem dX9_addsBench_127 : decode cX9_addsBench 127 = .ok (.imul, 1) := by decide +kernel
theorem dX9_addsBench_128 : decode cX9_addsBench 128 = .ok (.iadd, 1) := by decide +kernel
theorem dX9_addsBench_129 : decode cX9_addsBench 129 = .ok (.iconst 1, 1) := by decide +kernel
theorem dX9_addsBench_130 : decode cX9_addsBench 130 = .ok (.iadd, 1) := by decide +kernel
theorem dX9_addsBench_131 : decode cX9_addsBench 131 = .ok (.iload_n 2, 1) := by decide +kernel
theorem dX9_addsBench_132 : decode cX9_addsBench 132 = .ok (.iastore, 1) := by decide +kernel
theorem dX9_addsBench_133 : decode cX9_addsBench 133 = .ok (.aload_n 0, 1) := by decide +kernel
theorem dX9_addsBench_134 : decode cX9_addsBench 134 = .ok (.getfield 7, 3) := by decide +kernel
theorem dX9_addsBench_137 : decode cX9_addsBench 137 = .ok (.bipush 10, 2) := by decide +kernel
theorem dX9_addsBench_139 : decode cX9_addsBench 139 = .ok (.bipush 6, 2) := by decide +kernel
theorem dX9_addsBench_141 : decode cX9_addsBench 141 = .ok (.iload 4, 2) := by decide +kernel
theorem dX9_addsBench_143 : decode cX9_addsBench 143 = .ok (.imul, 1) := by decide +kernel
theorem dX9_addsBench_144 : decode cX9_addsBench 144 = .ok (.iadd, 1) := by decide +kernel
theorem dX9_addsBench_145 : decode cX9_addsBench 145 = .ok (.iconst 2, 1) := by decide +kernel
theorem dX9_addsBench_146 : decode cX9_addsBench 146 = .ok (.iadd, 1) := by decide +kernel
theorem dX9_addsBench_147 : decode cX9_addsBench 147 = .ok (.iload_n 3, 1) := by decide +kernel
theorem dX9_addsBench_148 : decode cX9_addsBench 148 = .ok (.iastore, 1) := by decide +kernel
theorem dX9_addsBench_149 : decode cX9_addsBench 149 = .ok (.aload_n 0, 1) := by decide +kernel
theorem dX9_addsBench_150 : decode cX9_addsBench 150 = .ok (.getfield 7, 3) := by decide +kernel
theorem dX9_addsBench_153 : decode cX9_addsBench 153 = .ok (.iconst 0, 1) := by decide +kernel
theorem dX9_addsBench_154 : decode cX9_addsBench 154 = .ok (.iload 4, 2) := by decide +kernel
theorem dX9_addsBench_156 : decode cX9_addsBench 156 = .ok (.iconst 1, 1) := by decide +kernel
theorem dX9_addsBench_157 : decode cX9_addsBench 157 = .ok (.iadd, 1) := by decide +kernel
theorem dX9_addsBench_158 : decode cX9_addsBench 158 = .ok (.iastore, 1) := by decide +kernel
theorem dX9_addsBench_159 : decode cX9_addsBench 159 = .ok (.aload_n 0, 1) := by decide +kernel
theorem dX9_addsBench_160 : decode cX9_addsBench 160 = .ok (.iload 4, 2) := by decide +kernel
theorem dX9_addsBench_162 : decode cX9_addsBench 162 = .ok (.invokevirtual 99, 3) := by decide +kernel
theorem dX9_addsBench_165 : decode cX9_addsBench 165 = .ok (.ireturn, 1) := by decide +kernel
theorem dX9_addsFountain_0 : decode cX9_addsFountain 0 = .ok (.iload_n 1, 1) := by decide +kernel
theorem dX9_addsFountain_1 : decode cX9_addsFountain 1 = .ok (.iload_n 2, 1) := by decide +kernel
theorem dX9_addsFountain_2 : decode cX9_addsFountain 2 = .ok (.invokestatic 89, 3) := by decide +kernel
theorem dX9_addsFountain_5 : decode cX9_addsFountain 5 = .ok (.ifCond .ne 5, 3) := by decide +kernel
theorem dX9_addsFountain_8 : decode cX9_addsFountain 8 = .ok (.iconst (-1), 1) := by decide +kernel
theorem dX9_addsFountain_9 : decode cX9_addsFountain 9 = .ok (.ireturn, 1) := by decide +kernel
theorem dX9_addsFountain_10 : decode cX9_addsFountain 10 = .ok (.iload_n 3, 1) := by decide +kernel
theorem dX9_addsFountain_11 : decode cX9_addsFountain 11 = .ok (.iconst 1, 1) := by decide +kernel
theorem dX9_addsFountain_12 : decode cX9_addsFountain 12 = .ok (.bipush 9, 2) := by decide +kernel
theorem dX9_addsFountain_14 : decode cX9_addsFountain 14 = .ok (.invokestatic 66, 3) := by decide +kernel
theorem dX9_addsFountain_17 : decode cX9_addsFountain 17 = .ok (.ifCond .ne 6, 3) := by decide +kernel
theorem dX9_addsFountain_20 : decode cX9_addsFountain 20 = .ok (.bipush (-2), 2) := by decide +kernel
theorem dX9_addsFountain_22 : decode cX9_addsFountain 22 = .ok (.ireturn, 1) := by decide +kernel
theorem dX9_addsFountain_23 : decode cX9_addsFountain 23 = .ok (.aload_n 0, 1) := by decide +kernel
theorem dX9_addsFountain_24 : decode cX9_addsFountain 24 = .ok (.getfield 7, 3) := by decide +kernel
theorem dX9_addsFountain_27 : decode cX9_addsFountain 27 = .ok (.iconst 1, 1) := by decide +kernel
theorem dX9_addsFountain_28 : decode cX9_addsFountain 28 = .ok (.iaload, 1) := by decide +kernel
theorem dX9_addsFountain_29 : decode cX9_addsFountain 29 = .ok (.istore 4, 2) := by decide +kernel
theorem dX9_addsFountain_31 : decode cX9_addsFountain 31 = .ok (.iload 4, 2) := by decide +kernel
theorem dX9_addsFountain_33 : decode cX9_addsFountain 33 = .ok (.iconst 4, 1) := by decide +kernel
theorem dX9_addsFountain_34 : decode cX9_addsFountain 34 = .ok (.if_icmp .ne 10, 3) := by decide +kernel
theorem dX9_addsFountain_37 : decode cX9_addsFountain 37 = .ok (.aload_n 0, 1) := by decide +kernel
theorem dX9_addsFountain_38 : decode cX9_addsFountain 38 = .ok (.iconst 2, 1) := by decide +kernel
theorem dX9_addsFountain_39 : decode cX9_addsFountain 39 = .ok (.iconst 4, 1) := by decide +kernel
theorem dX9_addsFountain_40 : decode cX9_addsFountain 40 = .ok (.invokevirtual 93, 3) := by decide +kernel
theorem dX9_addsFountain_43 : decode cX9_addsFountain 43 = .ok (.ireturn, 1) := by decide +kernel
theorem dX9_addsFountain_44 : decode cX9_addsFountain 44 = .ok (.aload_n 0, 1) := by decide +kernel
theorem dX9_addsFountain_45 : decode cX9_addsFountain 45 = .ok (.iload_n 1, 1) := by decide +kernel
theorem dX9_addsFountain_46 : decode cX9_addsFountain 46 = .ok (.iload_n 2, 1) := by decide +kernel
theorem dX9_addsFountain_47 : decode cX9_addsFountain 47 = .ok (.invokevirtual 96, 3) := by decide +kernel
theorem dX9_addsFountain_50 : decode cX9_addsFountain 50 = .ok (.iconst (-1), 1) := by decide +kernel
theorem dX9_addsFountain_51 : decode cX9_addsFountain 51 = .ok (.if_icmp .eq 15, 3) := by decide +kernel
theorem dX9_addsFountain_54 : decode cX9_addsFountain 54 = .ok (.aload_n 0, 1) := by decide +kernel
theorem dX9_addsFountain_55 : decode cX9_addsFountain 55 = .ok (.iconst 4, 1) := by decide +kernel
theorem dX9_addsFountain_56 : decode cX9_addsFountain 56 = .ok (.aload_n 0, 1) := by decide +kernel
theorem dX9_addsFountain_57 : decode cX9_addsFountain 57 = .ok (.iload_n 1, 1) := by decide +kernel
theorem dX9_addsFountain_58 : decode cX9_addsFountain 58 = .ok (.iload_n 2, 1) := by decide +kernel
theorem dX9_addsFountain_59 : decode cX9_addsFountain 59 = .ok (.invokevirtual 96, 3) := by decide +kernel
theorem dX9_addsFountain_62 : decode cX9_addsFountain 62 = .ok (.invokevirtual 93, 3) := by decide +kernel
theorem dX9_addsFountain_65 : decode cX9_addsFountain 65 = .ok (.ireturn, 1) := by decide +kernel
theorem dX9_addsFountain_66 : decode cX9_addsFountain 66 = .ok (.aload_n 0, 1) := by decide +kernel
theorem dX9_addsFountain_67 : decode cX9_addsFountain 67 = .ok (.getfield 7, 3) := by decide +kernel
theorem dX9_addsFountain_70 : decode cX9_addsFountain 70 = .ok (.bipush 70, 2) := by decide +kernel
theorem dX9_addsFountain_72 : decode cX9_addsFountain 72 = .ok (.iconst 4, 1) := by decide +kernel
theorem dX9_addsFountain_73 : decode cX9_addsFountain 73 = .ok (.iload 4, 2) := by decide +kernel
theorem dX9_addsFountain_75 : decode cX9_addsFountain 75 = .ok (.imul, 1) := by decide +kernel
theorem dX9_addsFountain_76 : decode cX9_addsFountain 76 = .ok (.iadd, 1) := by decide +kernel
theorem dX9_addsFountain_77 : decode cX9_addsFountain 77 = .ok (.iconst 0, 1) := by decide +kernel
theorem dX9_addsFountain_78 : decode cX9_addsFountain 78 = .ok (.iadd, 1) := by decide +kernel
theorem dX9_addsFountain_79 : decode cX9_addsFountain 79 = .ok (.iload_n 1, 1) := by decide +kernel
theorem dX9_addsFountain_80 : decode cX9_addsFountain 80 = .ok (.iastore, 1) := by decide +kernel
theorem dX9_addsFountain_81 : decode cX9_addsFountain 81 = .ok (.aload_n 0, 1) := by decide +kernel
theorem dX9_addsFountain_82 : decode cX9_addsFountain 82 = .ok (.getfield 7, 3) := by decide +kernel
theorem dX9_addsFountain_85 : decode cX9_addsFountain 85 = .ok (.bipush 70, 2) := by decide +kernel
theorem dX9_addsFountain_87 : decode cX9_addsFountain 87 = .ok (.iconst 4, 1) := by decide +kernel
theorem dX9_addsFountain_88 : decode cX9_addsFountain 88 = .ok (.iload 4, 2) := by decide +kernel
theorem dX9_addsFountain_90 : decode cX9_addsFountain 90 = .ok (.imul, 1) := by decide +kernel
theorem dX9_addsFountain_91 : decode cX9_addsFountain 91 = .ok (.iadd, 1) := by decide +kernel
theorem dX9_addsFountain_92 : decode cX9_addsFountain 92 = .ok (.iconst 1, 1) := by decide +kernel
theorem dX9_addsFountain_93 : decode cX9_addsFountain 93 = .ok (.iadd, 1) := by decide +kernel
theorem dX9_addsFountain_94 : decode cX9_addsFountain 94 = .ok (.iload_n 2, 1) := by decide +kernel
theorem dX9_addsFountain_95 : decode cX9_addsFountain 95 = .ok (.iastore, 1) := by decide +kernel
theorem dX9_addsFountain_96 : decode cX9_addsFountain 96 = .ok (.aload_n 0, 1) := by decide +kernel
theorem dX9_addsFountain_97 : decode cX9_addsFountain 97 = .ok (.getfield 7, 3) := by decide +kernel
theorem dX9_addsFountain_100 : decode cX9_addsFountain 100 = .ok (.bipush 70, 2) := by decide +kernel
theorem dX9_addsFountain_102 : decode cX9_addsFountain 102 = .ok (.iconst 4, 1) := by decide +kernel
theorem dX9_addsFountain_103 : decode cX9_addsFountain 103 = .ok (.iload 4, 2) := by decide +kernel
theorem dX9_addsFountain_105 : decode cX9_addsFountain 105 = .ok (.imul, 1) := by decide +kernel
theorem dX9_addsFountain_106 : decode cX9_addsFountain 106 = .ok (.iadd, 1) := by decide +kernel
theorem dX9_addsFountain_107 : decode cX9_addsFountain 107 = .ok (.iconst 2, 1) := by decide +kernel
theorem dX9_addsFountain_108 : decode cX9_addsFountain 108 = .ok (.iadd, 1) := by decide +kernel
theorem dX9_addsFountain_109 : decode cX9_addsFountain 109 = .ok (.iload_n 3, 1) := by decide +kernel
theorem dX9_addsFountain_110 : decode cX9_addsFountain 110 = .ok (.iastore, 1) := by decide +kernel
theorem dX9_addsFountain_111 : decode cX9_addsFountain 111 = .ok (.aload_n 0, 1) := by decide +kernel
theorem dX9_addsFountain_112 : decode cX9_addsFountain 112 = .ok (.getfield 7, 3) := by decide +kernel
theorem dX9_addsFountain_115 : decode cX9_addsFountain 115 = .ok (.bipush 70, 2) := by decide +kernel
theorem dX9_addsFountain_117 : decode cX9_addsFountain 117 = .ok (.iconst 4, 1) := by decide +kernel
theorem dX9_addsFountain_118 : decode cX9_addsFountain 118 = .ok (.iload 4, 2) := by decide +kernel
theorem dX9_addsFountain_120 : decode cX9_addsFountain 120 = .ok (.imul, 1) := by decide +kernel
theorem dX9_addsFountain_121 : decode cX9_addsFountain 121 = .ok (.iadd, 1) := by decide +kernel
theorem dX9_addsFountain_122 : decode cX9_addsFountain 122 = .ok (.iconst 3, 1) := by decide +kernel
theorem dX9_addsFountain_123 : decode cX9_addsFountain 123 = .ok (.iadd, 1) := by decide +kernel
theorem dX9_addsFountain_124 : decode cX9_addsFountain 124 = .ok (.iconst 1, 1) := by decide +kernel
theorem dX9_addsFountain_125 : decode cX9_addsFountain 125 = .ok (.iastore, 1) := by decide +kernel
theorem dX9_addsFountain_126 : decode cX9_addsFountain 126 = .ok (.aload_n 0, 1) := by decide +kernel
theorem dX9_addsFountain_127 : decode cX9_addsFountain 127 = .ok (.getfield 7, 3) := by decide +kernel
theorem dX9_addsFountain_130 : decode cX9_addsFountain 130 = .ok (.iconst 1, 1) := by decide +kernel
theorem dX9_addsFountain_131 : decode cX9_addsFountain 131 = .ok (.iload 4, 2) := by decide +kernel
theorem dX9_addsFountain_133 : decode cX9_addsFountain 133 = .ok (.iconst 1, 1) := by decide +kernel
theorem dX9_addsFountain_134 : decode cX9_addsFountain 134 = .ok (.iadd, 1) := by decide +kernel
theorem dX9_addsFountain_135 : decode cX9_addsFountain 135 = .ok (.iastore, 1) := by decide +kernel
theorem dX9_addsFountain_136 : decode cX9_addsFountain 136 = .ok (.aload_n 0, 1) := by decide +kernel
theorem dX9_addsFountain_137 : decode cX9_addsFountain 137 = .ok (.iload 4, 2) := by decide +kernel
theorem dX9_addsFountain_139 : decode cX9_addsFountain 139 = .ok (.invokevirtual 99, 3) := by decide +kernel
theorem dX9_addsFountain_142 : decode cX9_addsFountain 142 = .ok (.ireturn, 1) := by decide +kernel
theorem dX9_addsTenant_0 : decode cX9_addsTenant 0 = .ok (.iload_n 1, 1) := by decide +kernel
theorem dX9_addsTenant_1 : decode cX9_addsTenant 1 = .ok (.iconst 0, 1) := by decide +kernel
theorem dX9_addsTenant_2 : decode cX9_addsTenant 2 = .ok (.bipush 99, 2) := by decide +kernel
theorem dX9_addsTenant_4 : decode cX9_addsTenant 4 = .ok (.invokestatic 66, 3) := by decide +kernel
theorem dX9_addsTenant_7 : decode cX9_addsTenant 7 = .ok (.ifCond .ne 5, 3) := by decide +kernel
theorem dX9_addsTenant_10 : decode cX9_addsTenant 10 = .ok (.iconst (-1), 1) := by decide +kernel
theorem dX9_addsTenant_11 : decode cX9_addsTenant 11 = .ok (.ireturn, 1) := by decide +kernel
theorem dX9_addsTenant_12 : decode cX9_addsTenant 12 = .ok (.aload_n 0, 1) := by decide +kernel
theorem dX9_addsTenant_13 : decode cX9_addsTenant 13 = .ok (.getfield 7, 3) := by decide +kernel
theorem dX9_addsTenant_16 : decode cX9_addsTenant 16 = .ok (.iconst 2, 1) := by decide +kernel
theorem dX9_addsTenant_17 : decode cX9_addsTenant 17 = .ok (.iaload, 1) := by decide +kernel
theorem dX9_addsTenant_18 : decode cX9_addsTenant 18 = .ok (.istore_n 2, 1) := by decide +kernel
theorem dX9_addsTenant_19 : decode cX9_addsTenant 19 = .ok (.iload_n 2, 1) := by decide +kernel
theorem dX9_addsTenant_20 : decode cX9_addsTenant 20 = .ok (.bipush 8, 2) := by decide +kernel
theorem dX9_addsTenant_22 : decode cX9_addsTenant 22 = .ok (.if_icmp .ne 11, 3) := by decide +kernel
theorem dX9_addsTenant_25 : decode cX9_addsTenant 25 = .ok (.aload_n 0, 1) := by decide +kernel
theorem dX9_addsTenant_26 : decode cX9_addsTenant 26 = .ok (.iconst 3, 1) := by decide +kernel
theorem dX9_addsTenant_27 : decode cX9_addsTenant 27 = .ok (.bipush 8, 2) := by decide +kernel
theorem dX9_addsTenant_29 : decode cX9_addsTenant 29 = .ok (.invokevirtual 93, 3) := by decide +kernel
theorem dX9_addsTenant_32 : decode cX9_addsTenant 32 = .ok (.ireturn, 1) := by decide +kernel
theorem dX9_addsTenant_33 : decode cX9_addsTenant 33 = .ok (.aload_n 0, 1) := by decide +kernel
theorem dX9_addsTenant_34 : decode cX9_addsTenant 34 = .ok (.getfield 7, 3) := by decide +kernel
theorem dX9_addsTenant_37 : decode cX9_addsTenant 37 = .ok (.bipush 86, 2) := by decide +kernel
theorem dX9_addsTenant_39 : decode cX9_addsTenant 39 = .ok (.iconst 2, 1) := by decide +kernel
theorem dX9_addsTenant_40 : decode cX9_addsTenant 40 = .ok (.iload_n 2, 1) := by decide +kernel
theorem dX9_addsTenant_41 : decode cX9_addsTenant 41 = .ok (.imul, 1) := by decide +kernel
theorem dX9_addsTenant_42 : decode cX9_addsTenant 42 = .ok (.iadd, 1) := by decide +kernel
theorem dX9_addsTenant_43 : decode cX9_addsTenant 43 = .ok (.iconst 0, 1) := by decide +kernel
theorem dX9_addsTenant_44 : decode cX9_addsTenant 44 = .ok (.iadd, 1) := by decide +kernel
theorem dX9_addsTenant_45 : decode cX9_addsTenant 45 = .ok (.iload_n 1, 1) := by decide +kernel
theorem dX9_addsTenant_46 : decode cX9_addsTenant 46 = .ok (.iastore, 1) := by decide +kernel
theorem dX9_addsTenant_47 : decode cX9_addsTenant 47 = .ok (.aload_n 0, 1) := by decide +kernel
theorem dX9_addsTenant_48 : decode cX9_addsTenant 48 = .ok (.getfield 7, 3) := by decide +kernel
theorem dX9_addsTenant_51 : decode cX9_addsTenant 51 = .ok (.bipush 86, 2) := by decide +kernel
theorem dX9_addsTenant_53 : decode cX9_addsTenant 53 = .ok (.iconst 2, 1) := by decide +kernel
theorem dX9_addsTenant_54 : decode cX9_addsTenant 54 = .ok (.iload_n 2, 1) := by decide +kernel
theorem dX9_addsTenant_55 : decode cX9_addsTenant 55 = .ok (.imul, 1) := by decide +kernel
theorem dX9_addsTenant_56 : decode cX9_addsTenant 56 = .ok (.iadd, 1) := by decide +kernel
theorem dX9_addsTenant_57 : decode cX9_addsTenant 57 = .ok (.iconst 1, 1) := by decide +kernel
theorem dX9_addsTenant_58 : decode cX9_addsTenant 58 = .ok (.iadd, 1) := by decide +kernel
theorem dX9_addsTenant_59 : decode cX9_addsTenant 59 = .ok (.iconst 0, 1) := by decide +kernel
theorem dX9_addsTenant_60 : decode cX9_addsTenant 60 = .ok (.iastore, 1) := by decide +kernel
theorem dX9_addsTenant_61 : decode cX9_addsTenant 61 = .ok (.aload_n 0, 1) := by decide +kernel
theorem dX9_addsTenant_62 : decode cX9_addsTenant 62 = .ok (.getfield 7, 3) := by decide +kernel
theorem dX9_addsTenant_65 : decode cX9_addsTenant 65 = .ok (.iconst 2, 1) := by decide +kernel
theorem dX9_addsTenant_66 : decode cX9_addsTenant 66 = .ok (.iload_n 2, 1) := by decide +kernel
theorem dX9_addsTenant_67 : decode cX9_addsTenant 67 = .ok (.iconst 1, 1) := by decide +kernel
theorem dX9_addsTenant_68 : decode cX9_addsTenant 68 = .ok (.iadd, 1) := by decide +kernel
theorem dX9_addsTenant_69 : decode cX9_addsTenant 69 = .ok (.iastore, 1) := by decide +kernel
theorem dX9_addsTenant_70 : decode cX9_addsTenant 70 = .ok (.aload_n 0, 1) := by decide +kernel
theorem dX9_addsTenant_71 : decode cX9_addsTenant 71 = .ok (.getfield 7, 3) := by decide +kernel
theorem dX9_addsTenant_74 : decode cX9_addsTenant 74 = .ok (.bipush 6, 2) := by decide +kernel
theorem dX9_addsTenant_76 : decode cX9_addsTenant 76 = .ok (.dup2, 1) := by decide +kernel
theorem dX9_addsTenant_77 : decode cX9_addsTenant 77 = .ok (.iaload, 1) := by decide +kernel
theorem dX9_addsTenant_78 : decode cX9_addsTenant 78 = .ok (.iload_n 1, 1) := by decide +kernel
theorem dX9_addsTenant_79 : decode cX9_addsTenant 79 = .ok (.iadd, 1) := by decide +kernel
theorem dX9_addsTenant_80 : decode cX9_addsTenant 80 = .ok (.iastore, 1) := by decide +kernel
theorem dX9_addsTenant_81 : decode cX9_addsTenant 81 = .ok (.aload_n 0, 1) := by decide +kernel
theorem dX9_addsTenant_82 : decode cX9_addsTenant 82 = .ok (.iload_n 2, 1) := by decide +kernel
theorem dX9_addsTenant_83 : decode cX9_addsTenant 83 = .ok (.invokevirtual 99, 3) := by decide +kernel
theorem dX9_addsTenant_86 : decode cX9_addsTenant 86 = .ok (.ireturn, 1) := by decide +kernel
theorem dX9_gives_0 : decode cX9_gives 0 = .ok (.aload_n 0, 1) := by decide +kernel
theorem dX9_gives_1 : decode cX9_gives 1 = .ok (.iload_n 1, 1) := by decide +kernel
theorem dX9_gives_2 : decode cX9_gives 2 = .ok (.invokevirtual 102, 3) := by decide +kernel
theorem dX9_gives_5 : decode cX9_gives 5 = .ok (.ifCond .ne 5, 3) := by decide +kernel
theorem dX9_gives_8 : decode cX9_gives 8 = .ok (.iconst (-1), 1) := by decide +kernel
theorem dX9_gives_9 : decode cX9_gives 9 = .ok (.ireturn, 1) := by decide +kernel
theorem dX9_gives_10 : decode cX9_gives 10 = .ok (.iload_n 2, 1) := by decide +kernel
theorem dX9_gives_11 : decode cX9_gives 11 = .ok (.iconst 1, 1) := by decide +kernel
theorem dX9_gives_12 : decode cX9_gives 12 = .ok (.bipush 99, 2) := by decide +kernel
theorem dX9_gives_14 : decode cX9_gives 14 = .ok (.invokestatic 66, 3) := by decide +kernel
theorem dX9_gives_17 : decode cX9_gives 17 = .ok (.ifCond .ne 6, 3) := by decide +kernel
theorem dX9_gives_20 : decode cX9_gives 20 = .ok (.bipush (-2), 2) := by decide +kernel
theorem dX9_gives_22 : decode cX9_gives 22 = .ok (.ireturn, 1) := by decide +kernel
theorem dX9_gives_23 : decode cX9_gives 23 = .ok (.aload_n 0, 1) := by decide +kernel
theorem dX9_gives_24 : decode cX9_gives 24 = .ok (.getfield 7, 3) := by decide +kernel
theorem dX9_gives_27 : decode cX9_gives 27 = .ok (.bipush 86, 2) := by decide +kernel
theorem dX9_gives_29 : decode cX9_gives 29 = .ok (.iconst 2, 1) := by decide +kernel
theorem dX9_gives_30 : decode cX9_gives 30 = .ok (.iload_n 1, 1) := by decide +kernel
theorem dX9_gives_31 : decode cX9_gives 31 = .ok (.imul, 1) := by decide +kernel
theorem dX9_gives_32 : decode cX9_gives 32 = .ok (.iadd, 1) := by decide +kernel
theorem dX9_gives_33 : decode cX9_gives 33 = .ok (.iconst 0, 1) := by decide +kernel
theorem dX9_gives_34 : decode cX9_gives 34 = .ok (.iadd, 1) := by decide +kernel
theorem dX9_gives_35 : decode cX9_gives 35 = .ok (.dup2, 1) := by decide +kernel
theorem dX9_gives_36 : decode cX9_gives 36 = .ok (.iaload, 1) := by decide +kernel
theorem dX9_gives_37 : decode cX9_gives 37 = .ok (.iload_n 2, 1) := by decide +kernel
theorem dX9_gives_38 : decode cX9_gives 38 = .ok (.iadd, 1) := by decide +kernel
theorem dX9_gives_39 : decode cX9_gives 39 = .ok (.iastore, 1) := by decide +kernel
theorem dX9_gives_40 : decode cX9_gives 40 = .ok (.aload_n 0, 1) := by decide +kernel
theorem dX9_gives_41 : decode cX9_gives 41 = .ok (.getfield 7, 3) := by decide +kernel
theorem dX9_gives_44 : decode cX9_gives 44 = .ok (.bipush 6, 2) := by decide +kernel
theorem dX9_gives_46 : decode cX9_gives 46 = .ok (.dup2, 1) := by decide +kernel
theorem dX9_gives_47 : decode cX9_gives 47 = .ok (.iaload, 1) := by decide +kernel
theorem dX9_gives_48 : decode cX9_gives 48 = .ok (.iload_n 2, 1) := by decide +kernel
theorem dX9_gives_49 : decode cX9_gives 49 = .ok (.iadd, 1) := by decide +kernel
theorem dX9_gives_50 : decode cX9_gives 50 = .ok (.iastore, 1) := by decide +kernel
theorem dX9_gives_51 : decode cX9_gives 51 = .ok (.aload_n 0, 1) := by decide +kernel
theorem dX9_gives_52 : decode cX9_gives 52 = .ok (.aload_n 0, 1) := by decide +kernel
theorem dX9_gives_53 : decode cX9_gives 53 = .ok (.iload_n 1, 1) := by decide +kernel
theorem dX9_gives_54 : decode cX9_gives 54 = .ok (.iconst 0, 1) := by decide +kernel
theorem dX9_gives_55 : decode cX9_gives 55 = .ok (.invokevirtual 106, 3) := by decide +kernel
theorem dX9_gives_58 : decode cX9_gives 58 = .ok (.invokevirtual 99, 3) := by decide +kernel
theorem dX9_gives_61 : decode cX9_gives 61 = .ok (.ireturn, 1) := by decide +kernel
theorem dX9_barred_0 : decode cX9_barred 0 = .ok (.aload_n 0, 1) := by decide +kernel
theorem dX9_barred_1 : decode cX9_barred 1 = .ok (.iload_n 1, 1) := by decide +kernel
theorem dX9_barred_2 : decode cX9_barred 2 = .ok (.iconst 1, 1) := by decide +kernel
theorem dX9_barred_3 : decode cX9_barred 3 = .ok (.invokevirtual 106, 3) := by decide +kernel
theorem dX9_barred_6 : decode cX9_barred 6 = .ok (.iconst 3, 1) := by decide +kernel
theorem dX9_barred_7 : decode cX9_barred 7 = .ok (.if_icmp .ne 10, 3) := by decide +kernel
theorem dX9_barred_10 : decode cX9_barred 10 = .ok (.aload_n 0, 1) := by decide +kernel
theorem dX9_barred_11 : decode cX9_barred 11 = .ok (.iconst 5, 1) := by decide +kernel
theorem dX9_barred_12 : decode cX9_barred 12 = .ok (.iload_n 1, 1) := by decide +kernel
theorem dX9_barred_13 : decode cX9_barred 13 = .ok (.invokevirtual 93, 3) := by decide +kernel
theorem dX9_barred_16 : decode cX9_barred 16 = .ok (.ireturn, 1) := by decide +kernel
theorem dX9_barred_17 : decode cX9_barred 17 = .ok (.aload_n 0, 1) := by decide +kernel
theorem dX9_barred_18 : decode cX9_barred 18 = .ok (.iload_n 1, 1) := by decide +kernel
theorem dX9_barred_19 : decode cX9_barred 19 = .ok (.invokevirtual 109, 3) := by decide +kernel
theorem dX9_barred_22 : decode cX9_barred 22 = .ok (.iconst (-1), 1) := by decide +kernel
theorem dX9_barred_23 : decode cX9_barred 23 = .ok (.if_icmp .eq 15, 3) := by decide +kernel
theorem dX9_barred_26 : decode cX9_barred 26 = .ok (.aload_n 0, 1) := by decide +kernel
theorem dX9_barred_27 : decode cX9_barred 27 = .ok (.bipush 6, 2) := by decide +kernel
theorem dX9_barred_29 : decode cX9_barred 29 = .ok (.aload_n 0, 1) := by decide +kernel
theorem dX9_barred_30 : decode cX9_barred 30 = .ok (.iload_n 1, 1) := by decide +kernel
theorem dX9_barred_31 : decode cX9_barred 31 = .ok (.invokevirtual 109, 3) := by decide +kernel
theorem dX9_barred_34 : decode cX9_barred 34 = .ok (.invokevirtual 93, 3) := by decide +kernel
theorem dX9_barred_37 : decode cX9_barred 37 = .ok (.ireturn, 1) := by decide +kernel
theorem dX9_barred_38 : decode cX9_barred 38 = .ok (.aload_n 0, 1) := by decide +kernel
theorem dX9_barred_39 : decode cX9_barred 39 = .ok (.iload_n 2, 1) := by decide +kernel
theorem dX9_barred_40 : decode cX9_barred 40 = .ok (.invokevirtual 74, 3) := by decide +kernel
theorem dX9_barred_43 : decode cX9_barred 43 = .ok (.iconst (-1), 1) := by decide +kernel
theorem dX9_barred_44 : decode cX9_barred 44 = .ok (.if_icmp .eq 15, 3) := by decide +kernel
theorem dX9_barred_47 : decode cX9_barred 47 = .ok (.aload_n 0, 1) := by decide +kernel
theorem dX9_barred_48 : decode cX9_barred 48 = .ok (.bipush 7, 2) := by decide +kernel
theorem dX9_barred_50 : decode cX9_barred 50 = .ok (.aload_n 0, 1) := by decide +kernel
theorem dX9_barred_51 : decode cX9_barred 51 = .ok (.iload_n 2, 1) := by decide +kernel
theorem dX9_barred_52 : decode cX9_barred 52 = .ok (.invokevirtual 74, 3) := by decide +kernel
theorem dX9_barred_55 : decode cX9_barred 55 = .ok (.invokevirtual 93, 3) := by decide +kernel
theorem dX9_barred_58 : decode cX9_barred 58 = .ok (.ireturn, 1) := by decide +kernel
theorem dX9_barred_59 : decode cX9_barred 59 = .ok (.aload_n 0, 1) := by decide +kernel
theorem dX9_barred_60 : decode cX9_barred 60 = .ok (.iload_n 2, 1) := by decide +kernel
theorem dX9_barred_61 : decode cX9_barred 61 = .ok (.invokevirtual 112, 3) := by decide +kernel
theorem dX9_barred_64 : decode cX9_barred 64 = .ok (.ifCond .ne 15, 3) := by decide +kernel
theorem dX9_barred_67 : decode cX9_barred 67 = .ok (.aload_n 0, 1) := by decide +kernel
theorem dX9_barred_68 : decode cX9_barred 68 = .ok (.bipush 8, 2) := by decide +kernel
theorem dX9_barred_70 : decode cX9_barred 70 = .ok (.aload_n 0, 1) := by decide +kernel
theorem dX9_barred_71 : decode cX9_barred 71 = .ok (.iload_n 2, 1) := by decide +kernel
theorem dX9_barred_72 : decode cX9_barred 72 = .ok (.invokevirtual 86, 3) := by decide +kernel
theorem dX9_barred_75 : decode cX9_barred 75 = .ok (.invokevirtual 93, 3) := by decide +kernel
theorem dX9_barred_78 : decode cX9_barred 78 = .ok (.ireturn, 1) := by decide +kernel
theorem dX9_barred_79 : decode cX9_barred 79 = .ok (.aload_n 0, 1) := by decide +kernel
theorem dX9_barred_80 : decode cX9_barred 80 = .ok (.iload_n 1, 1) := by decide +kernel
theorem dX9_barred_81 : decode cX9_barred 81 = .ok (.iconst 0, 1) := by decide +kernel
theorem dX9_barred_82 : decode cX9_barred 82 = .ok (.invokevirtual 106, 3) := by decide +kernel
theorem dX9_barred_85 : decode cX9_barred 85 = .ok (.aload_n 0, 1) := by decide +kernel
theorem dX9_barred_86 : decode cX9_barred 86 = .ok (.iload_n 2, 1) := by decide +kernel
theorem dX9_barred_87 : decode cX9_barred 87 = .ok (.invokevirtual 115, 3) := by decide +kernel
theorem dX9_barred_90 : decode cX9_barred 90 = .ok (.if_icmp .ge 18, 3) := by decide +kernel
theorem dX9_barred_93 : decode cX9_barred 93 = .ok (.aload_n 0, 1) := by decide +kernel
theorem dX9_barred_94 : decode cX9_barred 94 = .ok (.bipush 9, 2) := by decide +kernel
theorem dX9_barred_96 : decode cX9_barred 96 = .ok (.aload_n 0, 1) := by decide +kernel
theorem dX9_barred_97 : decode cX9_barred 97 = .ok (.iload_n 1, 1) := by decide +kernel
theorem dX9_barred_98 : decode cX9_barred 98 = .ok (.iconst 0, 1) := by decide +kernel
theorem dX9_barred_99 : decode cX9_barred 99 = .ok (.invokevirtual 106, 3) := by decide +kernel
theorem dX9_barred_102 : decode cX9_barred 102 = .ok (.invokevirtual 93, 3) := by decide +kernel
theorem dX9_barred_105 : decode cX9_barred 105 = .ok (.goto 4, 3) := by decide +kernel
theorem dX9_barred_108 : decode cX9_barred 108 = .ok (.iconst 0, 1) := by decide +kernel
theorem dX9_barred_109 : decode cX9_barred 109 = .ok (.ireturn, 1) := by decide +kernel
theorem dX9_leases_0 : decode cX9_leases 0 = .ok (.aload_n 0, 1) := by decide +kernel
theorem dX9_leases_1 : decode cX9_leases 1 = .ok (.iload_n 1, 1) := by decide +kernel
theorem dX9_leases_2 : decode cX9_leases 2 = .ok (.invokevirtual 102, 3) := by decide +kernel
theorem dX9_leases_5 : decode cX9_leases 5 = .ok (.ifCond .eq 11, 3) := by decide +kernel
theorem dX9_leases_8 : decode cX9_leases 8 = .ok (.aload_n 0, 1) := by decide +kernel
theorem dX9_leases_9 : decode cX9_leases 9 = .ok (.iload_n 2, 1) := by decide +kernel
theorem dX9_leases_10 : decode cX9_leases 10 = .ok (.invokevirtual 118, 3) := by decide +kernel
theorem dX9_leases_13 : decode cX9_leases 13 = .ok (.ifCond .ne 5, 3) := by decide +kernel
theorem dX9_leases_16 : decode cX9_leases 16 = .ok (.iconst (-1), 1) := by decide +kernel
theorem dX9_leases_17 : decode cX9_leases 17 = .ok (.ireturn, 1) := by decide +kernel
theorem dX9_leases_18 : decode cX9_leases 18 = .ok (.iload_n 3, 1) := by decide +kernel
theorem dX9_leases_19 : decode cX9_leases 19 = .ok (.iconst 1, 1) := by decide +kernel
theorem dX9_leases_20 : decode cX9_leases 20 = .ok (.bipush 12, 2) := by decide +kernel
theorem dX9_leases_22 : decode cX9_leases 22 = .ok (.invokestatic 66, 3) := by decide +kernel
theorem dX9_leases_25 : decode cX9_leases 25 = .ok (.ifCond .ne 6, 3) := by decide +kernel
theorem dX9_leases_28 : decode cX9_leases 28 = .ok (.bipush (-2), 2) := by decide +kernel
theorem dX9_leases_30 : decode cX9_leases 30 = .ok (.ireturn, 1) := by decide +kernel
theorem dX9_leases_31 : decode cX9_leases 31 = .ok (.aload_n 0, 1) := by decide +kernel
theorem dX9_leases_32 : decode cX9_leases 32 = .ok (.iload_n 1, 1) := by decide +kernel
theorem dX9_leases_33 : decode cX9_leases 33 = .ok (.iload_n 2, 1) := by decide +kernel
theorem dX9_leases_34 : decode cX9_leases 34 = .ok (.invokevirtual 121, 3) := by decide +kernel
theorem dX9_leases_37 : decode cX9_leases 37 = .ok (.istore 4, 2) := by decide +kernel
theorem dX9_leases_39 : decode cX9_leases 39 = .ok (.iload 4, 2) := by decide +kernel
theorem dX9_leases_41 : decode cX9_leases 41 = .ok (.ifCond .le 6, 3) := by decide +kernel
theorem dX9_leases_44 : decode cX9_leases 44 = .ok (.iload 4, 2) := by decide +kernel
theorem dX9_leases_46 : decode cX9_leases 46 = .ok (.ireturn, 1) := by decide +kernel
theorem dX9_leases_47 : decode cX9_leases 47 = .ok (.aload_n 0, 1) := by decide +kernel
theorem dX9_leases_48 : decode cX9_leases 48 = .ok (.iload_n 2, 1) := by decide +kernel
theorem dX9_leases_49 : decode cX9_leases 49 = .ok (.invokevirtual 115, 3) := by decide +kernel
theorem dX9_leases_52 : decode cX9_leases 52 = .ok (.istore 5, 2) := by decide +kernel
theorem dX9_leases_54 : decode cX9_leases 54 = .ok (.aload_n 0, 1) := by decide +kernel
theorem dX9_leases_55 : decode cX9_leases 55 = .ok (.getfield 7, 3) := by decide +kernel
theorem dX9_leases_58 : decode cX9_leases 58 = .ok (.bipush 86, 2) := by decide +kernel
theorem dX9_leases_60 : decode cX9_leases 60 = .ok (.iconst 2, 1) := by decide +kernel
theorem dX9_leases_61 : decode cX9_leases 61 = .ok (.iload_n 1, 1) := by decide +kernel
theorem dX9_leases_62 : decode cX9_leases 62 = .ok (.imul, 1) := by decide +kernel
theorem dX9_leases_63 : decode cX9_leases 63 = .ok (.iadd, 1) := by decide +kernel
theorem dX9_leases_64 : decode cX9_leases 64 = .ok (.iconst 0, 1) := by decide +kernel
theorem dX9_leases_65 : decode cX9_leases 65 = .ok (.iadd, 1) := by decide +kernel
theorem dX9_leases_66 : decode cX9_leases 66 = .ok (.dup2, 1) := by decide +kernel
theorem dX9_leases_67 : decode cX9_leases 67 = .ok (.iaload, 1) := by decide +kernel
theorem dX9_leases_68 : decode cX9_leases 68 = .ok (.iload 5, 2) := by decide +kernel
theorem dX9_leases_70 : decode cX9_leases 70 = .ok (.isub, 1) := by decide +kernel
theorem dX9_leases_71 : decode cX9_leases 71 = .ok (.iastore, 1) := by decide +kernel
theorem dX9_leases_72 : decode cX9_leases 72 = .ok (.aload_n 0, 1) := by decide +kernel
theorem dX9_leases_73 : decode cX9_leases 73 = .ok (.getfield 7, 3) := by decide +kernel
theorem dX9_leases_76 : decode cX9_leases 76 = .ok (.bipush 10, 2) := by decide +kernel
theorem dX9_leases_78 : decode cX9_leases 78 = .ok (.bipush 6, 2) := by decide +kernel
theorem dX9_leases_80 : decode cX9_leases 80 = .ok (.iload_n 2, 1) := by decide +kernel
theorem dX9_leases_81 : decode cX9_leases 81 = .ok (.imul, 1) := by decide +kernel
theorem dX9_leases_82 : decode cX9_leases 82 = .ok (.iadd, 1) := by decide +kernel
theorem dX9_leases_83 : decode cX9_leases 83 = .ok (.iconst 3, 1) := by decide +kernel
theorem dX9_leases_84 : decode cX9_leases 84 = .ok (.iadd, 1) := by decide +kernel
theorem dX9_leases_85 : decode cX9_leases 85 = .ok (.iload_n 1, 1) := by decide +kernel
theorem dX9_leases_86 : decode cX9_leases 86 = .ok (.iconst 1, 1) := by decide +kernel
theorem dX9_leases_87 : decode cX9_leases 87 = .ok (.iadd, 1) := by decide +kernel
theorem dX9_leases_88 : decode cX9_leases 88 = .ok (.iastore, 1) := by decide +kernel
theorem dX9_leases_89 : decode cX9_leases 89 = .ok (.aload_n 0, 1) := by decide +kernel
theorem dX9_leases_90 : decode cX9_leases 90 = .ok (.getfield 7, 3) := by decide +kernel
theorem dX9_leases_93 : decode cX9_leases 93 = .ok (.bipush 10, 2) := by decide +kernel
theorem dX9_leases_95 : decode cX9_leases 95 = .ok (.bipush 6, 2) := by decide +kernel
theorem dX9_leases_97 : decode cX9_leases 97 = .ok (.iload_n 2, 1) := by decide +kernel
theorem dX9_leases_98 : decode cX9_leases 98 = .ok (.imul, 1) := by decide +kernel
theorem dX9_leases_99 : decode cX9_leases 99 = .ok (.iadd, 1) := by decide +kernel
theorem dX9_leases_100 : decode cX9_leases 100 = .ok (.iconst 4, 1) := by decide +kernel
theorem dX9_leases_101 : decode cX9_leases 101 = .ok (.iadd, 1) := by decide +kernel
theorem dX9_leases_102 : decode cX9_leases 102 = .ok (.iload 5, 2) := by decide +kernel
theorem dX9_leases_104 : decode cX9_leases 104 = .ok (.iastore, 1) := by decide +kernel
theorem dX9_leases_105 : decode cX9_leases 105 = .ok (.aload_n 0, 1) := by decide +kernel
theorem dX9_leases_106 : decode cX9_leases 106 = .ok (.getfield 7, 3) := by decide +kernel
theorem dX9_leases_109 : decode cX9_leases 109 = .ok (.bipush 10, 2) := by decide +kernel
theorem dX9_leases_111 : decode cX9_leases 111 = .ok (.bipush 6, 2) := by decide +kernel
theorem dX9_leases_113 : decode cX9_leases 113 = .ok (.iload_n 2, 1) := by decide +kernel
theorem dX9_leases_114 : decode cX9_leases 114 = .ok (.imul, 1) := by decide +kernel
theorem dX9_leases_115 : decode cX9_leases 115 = .ok (.iadd, 1) := by decide +kernel
theorem dX9_leases_116 : decode cX9_leases 116 = .ok (.iconst 5, 1) := by decide +kernel
theorem dX9_leases_117 : decode cX9_leases 117 = .ok (.iadd, 1) := by decide +kernel
theorem dX9_leases_118 : decode cX9_leases 118 = .ok (.iload_n 3, 1) := by decide +kernel
theorem dX9_leases_119 : decode cX9_leases 119 = .ok (.iastore, 1) := by decide +kernel
theorem dX9_leases_120 : decode cX9_leases 120 = .ok (.aload_n 0, 1) := by decide +kernel
theorem dX9_leases_121 : decode cX9_leases 121 = .ok (.iload 5, 2) := by decide +kernel
theorem dX9_leases_123 : decode cX9_leases 123 = .ok (.invokevirtual 99, 3) := by decide +kernel
theorem dX9_leases_126 : decode cX9_leases 126 = .ok (.ireturn, 1) := by decide +kernel
theorem dX9_frees_0 : decode cX9_frees 0 = .ok (.aload_n 0, 1) := by decide +kernel
theorem dX9_frees_1 : decode cX9_frees 1 = .ok (.getfield 7, 3) := by decide +kernel
theorem dX9_frees_4 : decode cX9_frees 4 = .ok (.bipush 86, 2) := by decide +kernel
theorem dX9_frees_6 : decode cX9_frees 6 = .ok (.iconst 2, 1) := by decide +kernel
theorem dX9_frees_7 : decode cX9_frees 7 = .ok (.aload_n 0, 1) := by decide +kernel
theorem dX9_frees_8 : decode cX9_frees 8 = .ok (.iload_n 1, 1) := by decide +kernel
theorem dX9_frees_9 : decode cX9_frees 9 = .ok (.invokevirtual 74, 3) := by decide +kernel
theorem dX9_frees_12 : decode cX9_frees 12 = .ok (.imul, 1) := by decide +kernel
theorem dX9_frees_13 : decode cX9_frees 13 = .ok (.iadd, 1) := by decide +kernel
theorem dX9_frees_14 : decode cX9_frees 14 = .ok (.iconst 0, 1) := by decide +kernel
theorem dX9_frees_15 : decode cX9_frees 15 = .ok (.iadd, 1) := by decide +kernel
theorem dX9_frees_16 : decode cX9_frees 16 = .ok (.dup2, 1) := by decide +kernel
theorem dX9_frees_17 : decode cX9_frees 17 = .ok (.iaload, 1) := by decide +kernel
theorem dX9_frees_18 : decode cX9_frees 18 = .ok (.iload_n 2, 1) := by decide +kernel
theorem dX9_frees_19 : decode cX9_frees 19 = .ok (.iadd, 1) := by decide +kernel
theorem dX9_frees_20 : decode cX9_frees 20 = .ok (.iastore, 1) := by decide +kernel
theorem dX9_frees_21 : decode cX9_frees 21 = .ok (.aload_n 0, 1) := by decide +kernel
theorem dX9_frees_22 : decode cX9_frees 22 = .ok (.getfield 7, 3) := by decide +kernel
theorem dX9_frees_25 : decode cX9_frees 25 = .ok (.iconst 5, 1) := by decide +kernel
theorem dX9_frees_26 : decode cX9_frees 26 = .ok (.dup2, 1) := by decide +kernel
theorem dX9_frees_27 : decode cX9_frees 27 = .ok (.iaload, 1) := by decide +kernel
theorem dX9_frees_28 : decode cX9_frees 28 = .ok (.aload_n 0, 1) := by decide +kernel
theorem dX9_frees_29 : decode cX9_frees 29 = .ok (.iload_n 1, 1) := by decide +kernel
theorem dX9_frees_30 : decode cX9_frees 30 = .ok (.iconst 4, 1) := by decide +kernel
theorem dX9_frees_31 : decode cX9_frees 31 = .ok (.invokevirtual 70, 3) := by decide +kernel
theorem dX9_frees_34 : decode cX9_frees 34 = .ok (.iload_n 2, 1) := by decide +kernel
theorem dX9_frees_35 : decode cX9_frees 35 = .ok (.isub, 1) := by decide +kernel
theorem dX9_frees_36 : decode cX9_frees 36 = .ok (.iadd, 1) := by decide +kernel
theorem dX9_frees_37 : decode cX9_frees 37 = .ok (.iastore, 1) := by decide +kernel
theorem dX9_frees_38 : decode cX9_frees 38 = .ok (.aload_n 0, 1) := by decide +kernel
theorem dX9_frees_39 : decode cX9_frees 39 = .ok (.getfield 7, 3) := by decide +kernel
theorem dX9_frees_42 : decode cX9_frees 42 = .ok (.bipush 10, 2) := by decide +kernel
theorem dX9_frees_44 : decode cX9_frees 44 = .ok (.bipush 6, 2) := by decide +kernel
theorem dX9_frees_46 : decode cX9_frees 46 = .ok (.iload_n 1, 1) := by decide +kernel
theorem dX9_frees_47 : decode cX9_frees 47 = .ok (.imul, 1) := by decide +kernel
theorem dX9_frees_48 : decode cX9_frees 48 = .ok (.iadd, 1) := by decide +kernel
theorem dX9_frees_49 : decode cX9_frees 49 = .ok (.iconst 3, 1) := by decide +kernel
theorem dX9_frees_50 : decode cX9_frees 50 = .ok (.iadd, 1) := by decide +kernel
theorem dX9_frees_51 : decode cX9_frees 51 = .ok (.iconst 0, 1) := by decide +kernel
theorem dX9_frees_52 : decode cX9_frees 52 = .ok (.iastore, 1) := by decide +kernel
theorem dX9_frees_53 : decode cX9_frees 53 = .ok (.aload_n 0, 1) := by decide +kernel
theorem dX9_frees_54 : decode cX9_frees 54 = .ok (.getfield 7, 3) := by decide +kernel
theorem dX9_frees_57 : decode cX9_frees 57 = .ok (.bipush 10, 2) := by decide +kernel
theorem dX9_frees_59 : decode cX9_frees 59 = .ok (.bipush 6, 2) := by decide +kernel
theorem dX9_frees_61 : decode cX9_frees 61 = .ok (.iload_n 1, 1) := by decide +kernel
theorem dX9_frees_62 : decode cX9_frees 62 = .ok (.imul, 1) := by decide +kernel
theorem dX9_frees_63 : decode cX9_frees 63 = .ok (.iadd, 1) := by decide +kernel
theorem dX9_frees_64 : decode cX9_frees 64 = .ok (.iconst 4, 1) := by decide +kernel
theorem dX9_frees_65 : decode cX9_frees 65 = .ok (.iadd, 1) := by decide +kernel
theorem dX9_frees_66 : decode cX9_frees 66 = .ok (.iconst 0, 1) := by decide +kernel
theorem dX9_frees_67 : decode cX9_frees 67 = .ok (.iastore, 1) := by decide +kernel
theorem dX9_frees_68 : decode cX9_frees 68 = .ok (.aload_n 0, 1) := by decide +kernel
theorem dX9_frees_69 : decode cX9_frees 69 = .ok (.getfield 7, 3) := by decide +kernel
theorem dX9_frees_72 : decode cX9_frees 72 = .ok (.bipush 10, 2) := by decide +kernel
theorem dX9_frees_74 : decode cX9_frees 74 = .ok (.bipush 6, 2) := by decide +kernel
theorem dX9_frees_76 : decode cX9_frees 76 = .ok (.iload_n 1, 1) := by decide +kernel
theorem dX9_frees_77 : decode cX9_frees 77 = .ok (.imul, 1) := by decide +kernel
theorem dX9_frees_78 : decode cX9_frees 78 = .ok (.iadd, 1) := by decide +kernel
theorem dX9_frees_79 : decode cX9_frees 79 = .ok (.iconst 5, 1) := by decide +kernel
theorem dX9_frees_80 : decode cX9_frees 80 = .ok (.iadd, 1) := by decide +kernel
theorem dX9_frees_81 : decode cX9_frees 81 = .ok (.iconst 0, 1) := by decide +kernel
theorem dX9_frees_82 : decode cX9_frees 82 = .ok (.iastore, 1) := by decide +kernel
theorem dX9_frees_83 : decode cX9_frees 83 = .ok (.return_, 1) := by decide +kernel
theorem dX9_endsLease_0 : decode cX9_endsLease 0 = .ok (.aload_n 0, 1) := by decide +kernel
theorem dX9_endsLease_1 : decode cX9_endsLease 1 = .ok (.iload_n 1, 1) := by decide +kernel
theorem dX9_endsLease_2 : decode cX9_endsLease 2 = .ok (.invokevirtual 118, 3) := by decide +kernel
theorem dX9_endsLease_5 : decode cX9_endsLease 5 = .ok (.ifCond .ne 5, 3) := by decide +kernel
theorem dX9_endsLease_8 : decode cX9_endsLease 8 = .ok (.iconst (-1), 1) := by decide +kernel
theorem dX9_endsLease_9 : decode cX9_endsLease 9 = .ok (.ireturn, 1) := by decide +kernel
theorem dX9_endsLease_10 : decode cX9_endsLease 10 = .ok (.aload_n 0, 1) := by decide +kernel
theorem dX9_endsLease_11 : decode cX9_endsLease 11 = .ok (.iload_n 1, 1) := by decide +kernel
theorem dX9_endsLease_12 : decode cX9_endsLease 12 = .ok (.invokevirtual 74, 3) := by decide +kernel
theorem dX9_endsLease_15 : decode cX9_endsLease 15 = .ok (.iconst (-1), 1) := by decide +kernel
theorem dX9_endsLease_16 : decode cX9_endsLease 16 = .ok (.if_icmp .ne 11, 3) := by decide +kernel
theorem dX9_endsLease_19 : decode cX9_endsLease 19 = .ok (.aload_n 0, 1) := by decide +kernel
theorem dX9_endsLease_20 : decode cX9_endsLease 20 = .ok (.bipush 10, 2) := by decide +kernel
theorem dX9_endsLease_22 : decode cX9_endsLease 22 = .ok (.iload_n 1, 1) := by decide +kernel
theorem dX9_endsLease_23 : decode cX9_endsLease 23 = .ok (.invokevirtual 93, 3) := by decide +kernel
theorem dX9_endsLease_26 : decode cX9_endsLease 26 = .ok (.ireturn, 1) := by decide +kernel
theorem dX9_endsLease_27 : decode cX9_endsLease 27 = .ok (.aload_n 0, 1) := by decide +kernel
theorem dX9_endsLease_28 : decode cX9_endsLease 28 = .ok (.iload_n 1, 1) := by decide +kernel
theorem dX9_endsLease_29 : decode cX9_endsLease 29 = .ok (.iconst 4, 1) := by decide +kernel
theorem dX9_endsLease_30 : decode cX9_endsLease 30 = .ok (.invokevirtual 70, 3) := by decide +kernel
theorem dX9_endsLease_33 : decode cX9_endsLease 33 = .ok (.iconst 2, 1) := by decide +kernel
theorem dX9_endsLease_34 : decode cX9_endsLease 34 = .ok (.idiv, 1) := by decide +kernel
theorem dX9_endsLease_35 : decode cX9_endsLease 35 = .ok (.istore_n 2, 1) := by decide +kernel
theorem dX9_endsLease_36 : decode cX9_endsLease 36 = .ok (.aload_n 0, 1) := by decide +kernel
theorem dX9_endsLease_37 : decode cX9_endsLease 37 = .ok (.iload_n 1, 1) := by decide +kernel
theorem dX9_endsLease_38 : decode cX9_endsLease 38 = .ok (.iload_n 2, 1) := by decide +kernel
theorem dX9_endsLease_39 : decode cX9_endsLease 39 = .ok (.invokevirtual 124, 3) := by decide +kernel
theorem dX9_endsLease_42 : decode cX9_endsLease 42 = .ok (.aload_n 0, 1) := by decide +kernel
theorem dX9_endsLease_43 : decode cX9_endsLease 43 = .ok (.iload_n 2, 1) := by decide +kernel
theorem dX9_endsLease_44 : decode cX9_endsLease 44 = .ok (.invokevirtual 99, 3) := by decide +kernel
theorem dX9_endsLease_47 : decode cX9_endsLease 47 = .ok (.ireturn, 1) := by decide +kernel
theorem dX9_renews_0 : decode cX9_renews 0 = .ok (.aload_n 0, 1) := by decide +kernel
theorem dX9_renews_1 : decode cX9_renews 1 = .ok (.iload_n 1, 1) := by decide +kernel
theorem dX9_renews_2 : decode cX9_renews 2 = .ok (.invokevirtual 118, 3) := by decide +kernel
theorem dX9_renews_5 : decode cX9_renews 5 = .ok (.ifCond .ne 5, 3) := by decide +kernel
theorem dX9_renews_8 : decode cX9_renews 8 = .ok (.iconst (-1), 1) := by decide +kernel
theorem dX9_renews_9 : decode cX9_renews 9 = .ok (.ireturn, 1) := by decide +kernel
theorem dX9_renews_10 : decode cX9_renews 10 = .ok (.iload_n 2, 1) := by decide +kernel
theorem dX9_renews_11 : decode cX9_renews 11 = .ok (.iconst 1, 1) := by decide +kernel
theorem dX9_renews_12 : decode cX9_renews 12 = .ok (.bipush 12, 2) := by decide +kernel
theorem dX9_renews_14 : decode cX9_renews 14 = .ok (.invokestatic 66, 3) := by decide +kernel
theorem dX9_renews_17 : decode cX9_renews 17 = .ok (.ifCond .ne 6, 3) := by decide +kernel
theorem dX9_renews_20 : decode cX9_renews 20 = .ok (.bipush (-2), 2) := by decide +kernel
theorem dX9_renews_22 : decode cX9_renews 22 = .ok (.ireturn, 1) := by decide +kernel
theorem dX9_renews_23 : decode cX9_renews 23 = .ok (.aload_n 0, 1) := by decide +kernel
theorem dX9_renews_24 : decode cX9_renews 24 = .ok (.iload_n 1, 1) := by decide +kernel
theorem dX9_renews_25 : decode cX9_renews 25 = .ok (.invokevirtual 74, 3) := by decide +kernel
theorem dX9_renews_28 : decode cX9_renews 28 = .ok (.iconst (-1), 1) := by decide +kernel
theorem dX9_renews_29 : decode cX9_renews 29 = .ok (.if_icmp .ne 11, 3) := by decide +kernel
theorem dX9_renews_32 : decode cX9_renews 32 = .ok (.aload_n 0, 1) := by decide +kernel
theorem dX9_renews_33 : decode cX9_renews 33 = .ok (.bipush 10, 2) := by decide +kernel
theorem dX9_renews_35 : decode cX9_renews 35 = .ok (.iload_n 1, 1) := by decide +kernel
theorem dX9_renews_36 : decode cX9_renews 36 = .ok (.invokevirtual 93, 3) := by decide +kernel
theorem dX9_renews_39 : decode cX9_renews 39 = .ok (.ireturn, 1) := by decide +kernel
theorem dX9_renews_40 : decode cX9_renews 40 = .ok (.aload_n 0, 1) := by decide +kernel
theorem dX9_renews_41 : decode cX9_renews 41 = .ok (.iload_n 1, 1) := by decide +kernel
theorem dX9_renews_42 : decode cX9_renews 42 = .ok (.iconst 5, 1) := by decide +kernel
theorem dX9_renews_43 : decode cX9_renews 43 = .ok (.invokevirtual 70, 3) := by decide +kernel
theorem dX9_renews_46 : decode cX9_renews 46 = .ok (.iload_n 2, 1) := by decide +kernel
theorem dX9_renews_47 : decode cX9_renews 47 = .ok (.iadd, 1) := by decide +kernel
theorem dX9_renews_48 : decode cX9_renews 48 = .ok (.bipush 12, 2) := by decide +kernel
theorem dX9_renews_50 : decode cX9_renews 50 = .ok (.if_icmp .le 16, 3) := by decide +kernel
theorem dX9_renews_53 : decode cX9_renews 53 = .ok (.aload_n 0, 1) := by decide +kernel
theorem dX9_renews_54 : decode cX9_renews 54 = .ok (.bipush 11, 2) := by decide +kernel
theorem dX9_renews_56 : decode cX9_renews 56 = .ok (.aload_n 0, 1) := by decide +kernel
theorem dX9_renews_57 : decode cX9_renews 57 = .ok (.iload_n 1, 1) := by decide +kernel
theorem dX9_renews_58 : decode cX9_renews 58 = .ok (.iconst 5, 1) := by decide +kernel
theorem dX9_renews_59 : decode cX9_renews 59 = .ok (.invokevirtual 70, 3) := by decide +kernel
theorem dX9_renews_62 : decode cX9_renews 62 = .ok (.invokevirtual 93, 3) := by decide +kernel
theorem dX9_renews_65 : decode cX9_renews 65 = .ok (.ireturn, 1) := by decide +kernel
theorem dX9_renews_66 : decode cX9_renews 66 = .ok (.aload_n 0, 1) := by decide +kernel
theorem dX9_renews_67 : decode cX9_renews 67 = .ok (.getfield 7, 3) := by decide +kernel
theorem dX9_renews_70 : decode cX9_renews 70 = .ok (.bipush 10, 2) := by decide +kernel
theorem dX9_renews_72 : decode cX9_renews 72 = .ok (.bipush 6, 2) := by decide +kernel
theorem dX9_renews_74 : decode cX9_renews 74 = .ok (.iload_n 1, 1) := by decide +kernel
theorem dX9_renews_75 : decode cX9_renews 75 = .ok (.imul, 1) := by decide +kernel
theorem dX9_renews_76 : decode cX9_renews 76 = .ok (.iadd, 1) := by decide +kernel
theorem dX9_renews_77 : decode cX9_renews 77 = .ok (.iconst 5, 1) := by decide +kernel
theorem dX9_renews_78 : decode cX9_renews 78 = .ok (.iadd, 1) := by decide +kernel
theorem dX9_renews_79 : decode cX9_renews 79 = .ok (.dup2, 1) := by decide +kernel
theorem dX9_renews_80 : decode cX9_renews 80 = .ok (.iaload, 1) := by decide +kernel
theorem dX9_renews_81 : decode cX9_renews 81 = .ok (.iload_n 2, 1) := by decide +kernel
theorem dX9_renews_82 : decode cX9_renews 82 = .ok (.iadd, 1) := by decide +kernel
theorem dX9_renews_83 : decode cX9_renews 83 = .ok (.iastore, 1) := by decide +kernel
theorem dX9_renews_84 : decode cX9_renews 84 = .ok (.aload_n 0, 1) := by decide +kernel
theorem dX9_renews_85 : decode cX9_renews 85 = .ok (.aload_n 0, 1) := by decide +kernel
theorem dX9_renews_86 : decode cX9_renews 86 = .ok (.iload_n 1, 1) := by decide +kernel
theorem dX9_renews_87 : decode cX9_renews 87 = .ok (.iconst 5, 1) := by decide +kernel
theorem dX9_renews_88 : decode cX9_renews 88 = .ok (.invokevirtual 70, 3) := by decide +kernel
theorem dX9_renews_91 : decode cX9_renews 91 = .ok (.invokevirtual 99, 3) := by decide +kernel
theorem dX9_renews_94 : decode cX9_renews 94 = .ok (.ireturn, 1) := by decide +kernel
theorem dX9_rents_0 : decode cX9_rents 0 = .ok (.aload_n 0, 1) := by decide +kernel
theorem dX9_rents_1 : decode cX9_rents 1 = .ok (.iload_n 1, 1) := by decide +kernel
theorem dX9_rents_2 : decode cX9_rents 2 = .ok (.invokevirtual 118, 3) := by decide +kernel
theorem dX9_rents_5 : decode cX9_rents 5 = .ok (.ifCond .ne 5, 3) := by decide +kernel
theorem dX9_rents_8 : decode cX9_rents 8 = .ok (.iconst (-1), 1) := by decide +kernel
theorem dX9_rents_9 : decode cX9_rents 9 = .ok (.ireturn, 1) := by decide +kernel
theorem dX9_rents_10 : decode cX9_rents 10 = .ok (.iload_n 2, 1) := by decide +kernel
theorem dX9_rents_11 : decode cX9_rents 11 = .ok (.iconst 1, 1) := by decide +kernel
theorem dX9_rents_12 : decode cX9_rents 12 = .ok (.bipush 20, 2) := by decide +kernel
theorem dX9_rents_14 : decode cX9_rents 14 = .ok (.invokestatic 66, 3) := by decide +kernel
theorem dX9_rents_17 : decode cX9_rents 17 = .ok (.ifCond .ne 6, 3) := by decide +kernel
theorem dX9_rents_20 : decode cX9_rents 20 = .ok (.bipush (-2), 2) := by decide +kernel
theorem dX9_rents_22 : decode cX9_rents 22 = .ok (.ireturn, 1) := by decide +kernel
theorem dX9_rents_23 : decode cX9_rents 23 = .ok (.aload_n 0, 1) := by decide +kernel
theorem dX9_rents_24 : decode cX9_rents 24 = .ok (.iload_n 1, 1) := by decide +kernel
theorem dX9_rents_25 : decode cX9_rents 25 = .ok (.iconst 2, 1) := by decide +kernel
theorem dX9_rents_26 : decode cX9_rents 26 = .ok (.invokevirtual 70, 3) := by decide +kernel
theorem dX9_rents_29 : decode cX9_rents 29 = .ok (.istore_n 3, 1) := by decide +kernel
theorem dX9_rents_30 : decode cX9_rents 30 = .ok (.aload_n 0, 1) := by decide +kernel
theorem dX9_rents_31 : decode cX9_rents 31 = .ok (.getfield 7, 3) := by decide +kernel
theorem dX9_rents_34 : decode cX9_rents 34 = .ok (.bipush 10, 2) := by decide +kernel
theorem dX9_rents_36 : decode cX9_rents 36 = .ok (.bipush 6, 2) := by decide +kernel
theorem dX9_rents_38 : decode cX9_rents 38 = .ok (.iload_n 1, 1) := by decide +kernel
theorem dX9_rents_39 : decode cX9_rents 39 = .ok (.imul, 1) := by decide +kernel
theorem dX9_rents_40 : decode cX9_rents 40 = .ok (.iadd, 1) := by decide +kernel
theorem dX9_rents_41 : decode cX9_rents 41 = .ok (.iconst 2, 1) := by decide +kernel
theorem dX9_rents_42 : decode cX9_rents 42 = .ok (.iadd, 1) := by decide +kernel
theorem dX9_rents_43 : decode cX9_rents 43 = .ok (.iload_n 2, 1) := by decide +kernel
theorem dX9_rents_44 : decode cX9_rents 44 = .ok (.iastore, 1) := by decide +kernel
theorem dX9_rents_45 : decode cX9_rents 45 = .ok (.aload_n 0, 1) := by decide +kernel
theorem dX9_rents_46 : decode cX9_rents 46 = .ok (.iload_n 3, 1) := by decide +kernel
theorem dX9_rents_47 : decode cX9_rents 47 = .ok (.invokevirtual 99, 3) := by decide +kernel
theorem dX9_rents_50 : decode cX9_rents 50 = .ok (.ireturn, 1) := by decide +kernel
theorem dX9_louds_0 : decode cX9_louds 0 = .ok (.aload_n 0, 1) := by decide +kernel
theorem dX9_louds_1 : decode cX9_louds 1 = .ok (.iload_n 1, 1) := by decide +kernel
theorem dX9_louds_2 : decode cX9_louds 2 = .ok (.invokevirtual 128, 3) := by decide +kernel
theorem dX9_louds_5 : decode cX9_louds 5 = .ok (.ifCond .ne 5, 3) := by decide +kernel
theorem dX9_louds_8 : decode cX9_louds 8 = .ok (.iconst (-1), 1) := by decide +kernel
theorem dX9_louds_9 : decode cX9_louds 9 = .ok (.ireturn, 1) := by decide +kernel
theorem dX9_louds_10 : decode cX9_louds 10 = .ok (.iload_n 2, 1) := by decide +kernel
theorem dX9_louds_11 : decode cX9_louds 11 = .ok (.iconst 1, 1) := by decide +kernel
theorem dX9_louds_12 : decode cX9_louds 12 = .ok (.bipush 9, 2) := by decide +kernel
theorem dX9_louds_14 : decode cX9_louds 14 = .ok (.invokestatic 66, 3) := by decide +kernel
theorem dX9_louds_17 : decode cX9_louds 17 = .ok (.ifCond .ne 6, 3) := by decide +kernel
theorem dX9_louds_20 : decode cX9_louds 20 = .ok (.bipush (-2), 2) := by decide +kernel
theorem dX9_louds_22 : decode cX9_louds 22 = .ok (.ireturn, 1) := by decide +kernel
theorem dX9_louds_23 : decode cX9_louds 23 = .ok (.aload_n 0, 1) := by decide +kernel
theorem dX9_louds_24 : decode cX9_louds 24 = .ok (.iload_n 1, 1) := by decide +kernel
theorem dX9_louds_25 : decode cX9_louds 25 = .ok (.iconst 2, 1) := by decide +kernel
theorem dX9_louds_26 : decode cX9_louds 26 = .ok (.invokevirtual 77, 3) := by decide +kernel
theorem dX9_louds_29 : decode cX9_louds 29 = .ok (.istore_n 3, 1) := by decide +kernel
theorem dX9_louds_30 : decode cX9_louds 30 = .ok (.aload_n 0, 1) := by decide +kernel
theorem dX9_louds_31 : decode cX9_louds 31 = .ok (.getfield 7, 3) := by decide +kernel
theorem dX9_louds_34 : decode cX9_louds 34 = .ok (.bipush 70, 2) := by decide +kernel
theorem dX9_louds_36 : decode cX9_louds 36 = .ok (.iconst 4, 1) := by decide +kernel
theorem dX9_louds_37 : decode cX9_louds 37 = .ok (.iload_n 1, 1) := by decide +kernel
theorem dX9_louds_38 : decode cX9_louds 38 = .ok (.imul, 1) := by decide +kernel
theorem dX9_louds_39 : decode cX9_louds 39 = .ok (.iadd, 1) := by decide +kernel
theorem dX9_louds_40 : decode cX9_louds 40 = .ok (.iconst 2, 1) := by decide +kernel
theorem dX9_louds_41 : decode cX9_louds 41 = .ok (.iadd, 1) := by decide +kernel
theorem dX9_louds_42 : decode cX9_louds 42 = .ok (.iload_n 2, 1) := by decide +kernel
theorem dX9_louds_43 : decode cX9_louds 43 = .ok (.iastore, 1) := by decide +kernel
theorem dX9_louds_44 : decode cX9_louds 44 = .ok (.aload_n 0, 1) := by decide +kernel
theorem dX9_louds_45 : decode cX9_louds 45 = .ok (.iload_n 3, 1) := by decide +kernel
theorem dX9_louds_46 : decode cX9_louds 46 = .ok (.invokevirtual 99, 3) := by decide +kernel
theorem dX9_louds_49 : decode cX9_louds 49 = .ok (.ireturn, 1) := by decide +kernel
theorem dX9_switches_0 : decode cX9_switches 0 = .ok (.aload_n 0, 1) := by decide +kernel
theorem dX9_switches_1 : decode cX9_switches 1 = .ok (.iload_n 1, 1) := by decide +kernel
theorem dX9_switches_2 : decode cX9_switches 2 = .ok (.invokevirtual 128, 3) := by decide +kernel
theorem dX9_switches_5 : decode cX9_switches 5 = .ok (.ifCond .ne 5, 3) := by decide +kernel
theorem dX9_switches_8 : decode cX9_switches 8 = .ok (.iconst (-1), 1) := by decide +kernel
theorem dX9_switches_9 : decode cX9_switches 9 = .ok (.ireturn, 1) := by decide +kernel
theorem dX9_switches_10 : decode cX9_switches 10 = .ok (.aload_n 0, 1) := by decide +kernel
theorem dX9_switches_11 : decode cX9_switches 11 = .ok (.getfield 7, 3) := by decide +kernel
theorem dX9_switches_14 : decode cX9_switches 14 = .ok (.bipush 70, 2) := by decide +kernel
theorem dX9_switches_16 : decode cX9_switches 16 = .ok (.iconst 4, 1) := by decide +kernel
theorem dX9_switches_17 : decode cX9_switches 17 = .ok (.iload_n 1, 1) := by decide +kernel
theorem dX9_switches_18 : decode cX9_switches 18 = .ok (.imul, 1) := by decide +kernel
theorem dX9_switches_19 : decode cX9_switches 19 = .ok (.iadd, 1) := by decide +kernel
theorem dX9_switches_20 : decode cX9_switches 20 = .ok (.iconst 3, 1) := by decide +kernel
theorem dX9_switches_21 : decode cX9_switches 21 = .ok (.iadd, 1) := by decide +kernel
theorem dX9_switches_22 : decode cX9_switches 22 = .ok (.iconst 1, 1) := by decide +kernel
theorem dX9_switches_23 : decode cX9_switches 23 = .ok (.aload_n 0, 1) := by decide +kernel
theorem dX9_switches_24 : decode cX9_switches 24 = .ok (.iload_n 1, 1) := by decide +kernel
theorem dX9_switches_25 : decode cX9_switches 25 = .ok (.iconst 3, 1) := by decide +kernel
theorem dX9_switches_26 : decode cX9_switches 26 = .ok (.invokevirtual 77, 3) := by decide +kernel
theorem dX9_switches_29 : decode cX9_switches 29 = .ok (.isub, 1) := by decide +kernel
theorem dX9_switches_30 : decode cX9_switches 30 = .ok (.iastore, 1) := by decide +kernel
theorem dX9_switches_31 : decode cX9_switches 31 = .ok (.aload_n 0, 1) := by decide +kernel
theorem dX9_switches_32 : decode cX9_switches 32 = .ok (.aload_n 0, 1) := by decide +kernel
theorem dX9_switches_33 : decode cX9_switches 33 = .ok (.iload_n 1, 1) := by decide +kernel
theorem dX9_switches_34 : decode cX9_switches 34 = .ok (.iconst 3, 1) := by decide +kernel
theorem dX9_switches_35 : decode cX9_switches 35 = .ok (.invokevirtual 77, 3) := by decide +kernel
theorem dX9_switches_38 : decode cX9_switches 38 = .ok (.invokevirtual 99, 3) := by decide +kernel
theorem dX9_switches_41 : decode cX9_switches 41 = .ok (.ireturn, 1) := by decide +kernel
theorem dX9_limits_0 : decode cX9_limits 0 = .ok (.iload_n 1, 1) := by decide +kernel
theorem dX9_limits_1 : decode cX9_limits 1 = .ok (.iconst 0, 1) := by decide +kernel
theorem dX9_limits_2 : decode cX9_limits 2 = .ok (.bipush 20, 2) := by decide +kernel
theorem dX9_limits_4 : decode cX9_limits 4 = .ok (.invokestatic 66, 3) := by decide +kernel
theorem dX9_limits_7 : decode cX9_limits 7 = .ok (.ifCond .ne 5, 3) := by decide +kernel
theorem dX9_limits_10 : decode cX9_limits 10 = .ok (.iconst (-1), 1) := by decide +kernel
theorem dX9_limits_11 : decode cX9_limits 11 = .ok (.ireturn, 1) := by decide +kernel
theorem dX9_limits_12 : decode cX9_limits 12 = .ok (.aload_n 0, 1) := by decide +kernel
theorem dX9_limits_13 : decode cX9_limits 13 = .ok (.getfield 7, 3) := by decide +kernel
theorem dX9_limits_16 : decode cX9_limits 16 = .ok (.iconst 3, 1) := by decide +kernel
theorem dX9_limits_17 : decode cX9_limits 17 = .ok (.iaload, 1) := by decide +kernel
theorem dX9_limits_18 : decode cX9_limits 18 = .ok (.istore_n 2, 1) := by decide +kernel
theorem dX9_limits_19 : decode cX9_limits 19 = .ok (.aload_n 0, 1) := by decide +kernel
theorem dX9_limits_20 : decode cX9_limits 20 = .ok (.getfield 7, 3) := by decide +kernel
theorem dX9_limits_23 : decode cX9_limits 23 = .ok (.iconst 3, 1) := by decide +kernel
theorem dX9_limits_24 : decode cX9_limits 24 = .ok (.iload_n 1, 1) := by decide +kernel
theorem dX9_limits_25 : decode cX9_limits 25 = .ok (.iastore, 1) := by decide +kernel
theorem dX9_limits_26 : decode cX9_limits 26 = .ok (.aload_n 0, 1) := by decide +kernel
theorem dX9_limits_27 : decode cX9_limits 27 = .ok (.iload_n 2, 1) := by decide +kernel
theorem dX9_limits_28 : decode cX9_limits 28 = .ok (.invokevirtual 99, 3) := by decide +kernel
theorem dX9_limits_31 : decode cX9_limits 31 = .ok (.ireturn, 1) := by decide +kernel
theorem dX9_billed_0 : decode cX9_billed 0 = .ok (.aload_n 0, 1) := by decide +kernel
theorem dX9_billed_1 : decode cX9_billed 1 = .ok (.iload_n 1, 1) := by decide +kernel
theorem dX9_billed_2 : decode cX9_billed 2 = .ok (.invokevirtual 74, 3) := by decide +kernel
theorem dX9_billed_5 : decode cX9_billed 5 = .ok (.istore_n 2, 1) := by decide +kernel
theorem dX9_billed_6 : decode cX9_billed 6 = .ok (.aload_n 0, 1) := by decide +kernel
theorem dX9_billed_7 : decode cX9_billed 7 = .ok (.iload_n 1, 1) := by decide +kernel
theorem dX9_billed_8 : decode cX9_billed 8 = .ok (.invokevirtual 112, 3) := by decide +kernel
theorem dX9_billed_11 : decode cX9_billed 11 = .ok (.ifCond .ne 27, 3) := by decide +kernel
theorem dX9_billed_14 : decode cX9_billed 14 = .ok (.aload_n 0, 1) := by decide +kernel
theorem dX9_billed_15 : decode cX9_billed 15 = .ok (.iload_n 1, 1) := by decide +kernel
theorem dX9_billed_16 : decode cX9_billed 16 = .ok (.aload_n 0, 1) := by decide +kernel
theorem dX9_billed_17 : decode cX9_billed 17 = .ok (.iload_n 1, 1) := by decide +kernel
theorem dX9_billed_18 : decode cX9_billed 18 = .ok (.iconst 4, 1) := by decide +kernel
theorem dX9_billed_19 : decode cX9_billed 19 = .ok (.invokevirtual 70, 3) := by decide +kernel
theorem dX9_billed_22 : decode cX9_billed 22 = .ok (.invokevirtual 124, 3) := by decide +kernel
theorem dX9_billed_25 : decode cX9_billed 25 = .ok (.aload_n 0, 1) := by decide +kernel
theorem dX9_billed_26 : decode cX9_billed 26 = .ok (.getfield 7, 3) := by decide +kernel
theorem dX9_billed_29 : decode cX9_billed 29 = .ok (.bipush 8, 2) := by decide +kernel
theorem dX9_billed_31 : decode cX9_billed 31 = .ok (.dup2, 1) := by decide +kernel
theorem dX9_billed_32 : decode cX9_billed 32 = .ok (.iaload, 1) := by decide +kernel
theorem dX9_billed_33 : decode cX9_billed 33 = .ok (.iconst 1, 1) := by decide +kernel
theorem dX9_billed_34 : decode cX9_billed 34 = .ok (.iadd, 1) := by decide +kernel
theorem dX9_billed_35 : decode cX9_billed 35 = .ok (.iastore, 1) := by decide +kernel
theorem dX9_billed_36 : decode cX9_billed 36 = .ok (.iconst 1, 1) := by decide +kernel
theorem dX9_billed_37 : decode cX9_billed 37 = .ok (.ireturn, 1) := by decide +kernel
theorem dX9_billed_38 : decode cX9_billed 38 = .ok (.aload_n 0, 1) := by decide +kernel
theorem dX9_billed_39 : decode cX9_billed 39 = .ok (.iload_n 2, 1) := by decide +kernel
theorem dX9_billed_40 : decode cX9_billed 40 = .ok (.iconst 0, 1) := by decide +kernel
theorem dX9_billed_41 : decode cX9_billed 41 = .ok (.invokevirtual 106, 3) := by decide +kernel
theorem dX9_billed_44 : decode cX9_billed 44 = .ok (.aload_n 0, 1) := by decide +kernel
theorem dX9_billed_45 : decode cX9_billed 45 = .ok (.iload_n 1, 1) := by decide +kernel
theorem dX9_billed_46 : decode cX9_billed 46 = .ok (.invokevirtual 115, 3) := by decide +kernel
theorem dX9_billed_49 : decode cX9_billed 49 = .ok (.if_icmp .ge 39, 3) := by decide +kernel
theorem dX9_billed_52 : decode cX9_billed 52 = .ok (.aload_n 0, 1) := by decide +kernel
theorem dX9_billed_53 : decode cX9_billed 53 = .ok (.getfield 7, 3) := by decide +kernel
theorem dX9_billed_56 : decode cX9_billed 56 = .ok (.bipush 86, 2) := by decide +kernel
theorem dX9_billed_58 : decode cX9_billed 58 = .ok (.iconst 2, 1) := by decide +kernel
theorem dX9_billed_59 : decode cX9_billed 59 = .ok (.iload_n 2, 1) := by decide +kernel
theorem dX9_billed_60 : decode cX9_billed 60 = .ok (.imul, 1) := by decide +kernel
theorem dX9_billed_61 : decode cX9_billed 61 = .ok (.iadd, 1) := by decide +kernel
theorem dX9_billed_62 : decode cX9_billed 62 = .ok (.iconst 1, 1) := by decide +kernel
theorem dX9_billed_63 : decode cX9_billed 63 = .ok (.iadd, 1) := by decide +kernel
theorem dX9_billed_64 : decode cX9_billed 64 = .ok (.dup2, 1) := by decide +kernel
theorem dX9_billed_65 : decode cX9_billed 65 = .ok (.iaload, 1) := by decide +kernel
theorem dX9_billed_66 : decode cX9_billed 66 = .ok (.iconst 1, 1) := by decide +kernel
theorem dX9_billed_67 : decode cX9_billed 67 = .ok (.iadd, 1) := by decide +kernel
theorem dX9_billed_68 : decode cX9_billed 68 = .ok (.iastore, 1) := by decide +kernel
theorem dX9_billed_69 : decode cX9_billed 69 = .ok (.aload_n 0, 1) := by decide +kernel
theorem dX9_billed_70 : decode cX9_billed 70 = .ok (.iload_n 1, 1) := by decide +kernel
theorem dX9_billed_71 : decode cX9_billed 71 = .ok (.iconst 0, 1) := by decide +kernel
theorem dX9_billed_72 : decode cX9_billed 72 = .ok (.invokevirtual 124, 3) := by decide +kernel
theorem dX9_billed_75 : decode cX9_billed 75 = .ok (.aload_n 0, 1) := by decide +kernel
theorem dX9_billed_76 : decode cX9_billed 76 = .ok (.getfield 7, 3) := by decide +kernel
theorem dX9_billed_79 : decode cX9_billed 79 = .ok (.bipush 7, 2) := by decide +kernel
theorem dX9_billed_81 : decode cX9_billed 81 = .ok (.dup2, 1) := by decide +kernel
theorem dX9_billed_82 : decode cX9_billed 82 = .ok (.iaload, 1) := by decide +kernel
theorem dX9_billed_83 : decode cX9_billed 83 = .ok (.iconst 1, 1) := by decide +kernel
theorem dX9_billed_84 : decode cX9_billed 84 = .ok (.iadd, 1) := by decide +kernel
theorem dX9_billed_85 : decode cX9_billed 85 = .ok (.iastore, 1) := by decide +kernel
theorem dX9_billed_86 : decode cX9_billed 86 = .ok (.iconst 1, 1) := by decide +kernel
theorem dX9_billed_87 : decode cX9_billed 87 = .ok (.ireturn, 1) := by decide +kernel
theorem dX9_billed_88 : decode cX9_billed 88 = .ok (.aload_n 0, 1) := by decide +kernel
theorem dX9_billed_89 : decode cX9_billed 89 = .ok (.getfield 7, 3) := by decide +kernel
theorem dX9_billed_92 : decode cX9_billed 92 = .ok (.bipush 86, 2) := by decide +kernel
theorem dX9_billed_94 : decode cX9_billed 94 = .ok (.iconst 2, 1) := by decide +kernel
theorem dX9_billed_95 : decode cX9_billed 95 = .ok (.iload_n 2, 1) := by decide +kernel
theorem dX9_billed_96 : decode cX9_billed 96 = .ok (.imul, 1) := by decide +kernel
theorem dX9_billed_97 : decode cX9_billed 97 = .ok (.iadd, 1) := by decide +kernel
theorem dX9_billed_98 : decode cX9_billed 98 = .ok (.iconst 0, 1) := by decide +kernel
theorem dX9_billed_99 : decode cX9_billed 99 = .ok (.iadd, 1) := by decide +kernel
theorem dX9_billed_100 : decode cX9_billed 100 = .ok (.dup2, 1) := by decide +kernel
theorem dX9_billed_101 : decode cX9_billed 101 = .ok (.iaload, 1) := by decide +kernel
theorem dX9_billed_102 : decode cX9_billed 102 = .ok (.aload_n 0, 1) := by decide +kernel
theorem dX9_billed_103 : decode cX9_billed 103 = .ok (.iload_n 1, 1) := by decide +kernel
theorem dX9_billed_104 : decode cX9_billed 104 = .ok (.invokevirtual 115, 3) := by decide +kernel
theorem dX9_billed_107 : decode cX9_billed 107 = .ok (.isub, 1) := by decide +kernel
theorem dX9_billed_108 : decode cX9_billed 108 = .ok (.iastore, 1) := by decide +kernel
theorem dX9_billed_109 : decode cX9_billed 109 = .ok (.aload_n 0, 1) := by decide +kernel
theorem dX9_billed_110 : decode cX9_billed 110 = .ok (.getfield 7, 3) := by decide +kernel
theorem dX9_billed_113 : decode cX9_billed 113 = .ok (.iconst 5, 1) := by decide +kernel
theorem dX9_billed_114 : decode cX9_billed 114 = .ok (.dup2, 1) := by decide +kernel
theorem dX9_billed_115 : decode cX9_billed 115 = .ok (.iaload, 1) := by decide +kernel
theorem dX9_billed_116 : decode cX9_billed 116 = .ok (.aload_n 0, 1) := by decide +kernel
theorem dX9_billed_117 : decode cX9_billed 117 = .ok (.iload_n 1, 1) := by decide +kernel
theorem dX9_billed_118 : decode cX9_billed 118 = .ok (.invokevirtual 115, 3) := by decide +kernel
theorem dX9_billed_121 : decode cX9_billed 121 = .ok (.iadd, 1) := by decide +kernel
theorem dX9_billed_122 : decode cX9_billed 122 = .ok (.iastore, 1) := by decide +kernel
theorem dX9_billed_123 : decode cX9_billed 123 = .ok (.aload_n 0, 1) := by decide +kernel
theorem dX9_billed_124 : decode cX9_billed 124 = .ok (.getfield 7, 3) := by decide +kernel
theorem dX9_billed_127 : decode cX9_billed 127 = .ok (.bipush 10, 2) := by decide +kernel
theorem dX9_billed_129 : decode cX9_billed 129 = .ok (.bipush 6, 2) := by decide +kernel
theorem dX9_billed_131 : decode cX9_billed 131 = .ok (.iload_n 1, 1) := by decide +kernel
theorem dX9_billed_132 : decode cX9_billed 132 = .ok (.imul, 1) := by decide +kernel
theorem dX9_billed_133 : decode cX9_billed 133 = .ok (.iadd, 1) := by decide +kernel
theorem dX9_billed_134 : decode cX9_billed 134 = .ok (.iconst 5, 1) := by decide +kernel
theorem dX9_billed_135 : decode cX9_billed 135 = .ok (.iadd, 1) := by decide +kernel
theorem dX9_billed_136 : decode cX9_billed 136 = .ok (.dup2, 1) := by decide +kernel
theorem dX9_billed_137 : decode cX9_billed 137 = .ok (.iaload, 1) := by decide +kernel
theorem dX9_billed_138 : decode cX9_billed 138 = .ok (.iconst 1, 1) := by decide +kernel
theorem dX9_billed_139 : decode cX9_billed 139 = .ok (.isub, 1) := by decide +kernel
theorem dX9_billed_140 : decode cX9_billed 140 = .ok (.iastore, 1) := by decide +kernel
theorem dX9_billed_141 : decode cX9_billed 141 = .ok (.aload_n 0, 1) := by decide +kernel
theorem dX9_billed_142 : decode cX9_billed 142 = .ok (.iload_n 1, 1) := by decide +kernel
theorem dX9_billed_143 : decode cX9_billed 143 = .ok (.iconst 5, 1) := by decide +kernel
theorem dX9_billed_144 : decode cX9_billed 144 = .ok (.invokevirtual 70, 3) := by decide +kernel
theorem dX9_billed_147 : decode cX9_billed 147 = .ok (.ifCond .le 5, 3) := by decide +kernel
theorem dX9_billed_150 : decode cX9_billed 150 = .ok (.iconst 0, 1) := by decide +kernel
theorem dX9_billed_151 : decode cX9_billed 151 = .ok (.ireturn, 1) := by decide +kernel
theorem dX9_billed_152 : decode cX9_billed 152 = .ok (.aload_n 0, 1) := by decide +kernel
theorem dX9_billed_153 : decode cX9_billed 153 = .ok (.iload_n 1, 1) := by decide +kernel
theorem dX9_billed_154 : decode cX9_billed 154 = .ok (.aload_n 0, 1) := by decide +kernel
theorem dX9_billed_155 : decode cX9_billed 155 = .ok (.iload_n 1, 1) := by decide +kernel
theorem dX9_billed_156 : decode cX9_billed 156 = .ok (.iconst 4, 1) := by decide +kernel
theorem dX9_billed_157 : decode cX9_billed 157 = .ok (.invokevirtual 70, 3) := by decide +kernel
theorem dX9_billed_160 : decode cX9_billed 160 = .ok (.invokevirtual 124, 3) := by decide +kernel
theorem dX9_billed_163 : decode cX9_billed 163 = .ok (.aload_n 0, 1) := by decide +kernel
theorem dX9_billed_164 : decode cX9_billed 164 = .ok (.getfield 7, 3) := by decide +kernel
theorem dX9_billed_167 : decode cX9_billed 167 = .ok (.bipush 9, 2) := by decide +kernel
theorem dX9_billed_169 : decode cX9_billed 169 = .ok (.dup2, 1) := by decide +kernel
theorem dX9_billed_170 : decode cX9_billed 170 = .ok (.iaload, 1) := by decide +kernel
theorem dX9_billed_171 : decode cX9_billed 171 = .ok (.iconst 1, 1) := by decide +kernel
theorem dX9_billed_172 : decode cX9_billed 172 = .ok (.iadd, 1) := by decide +kernel
theorem dX9_billed_173 : decode cX9_billed 173 = .ok (.iastore, 1) := by decide +kernel
theorem dX9_billed_174 : decode cX9_billed 174 = .ok (.iconst 1, 1) := by decide +kernel
theorem dX9_billed_175 : decode cX9_billed 175 = .ok (.ireturn, 1) := by decide +kernel
theorem dX9_passes_0 : decode cX9_passes 0 = .ok (.iload_n 1, 1) := by decide +kernel
theorem dX9_passes_1 : decode cX9_passes 1 = .ok (.iconst 1, 1) := by decide +kernel
theorem dX9_passes_2 : decode cX9_passes 2 = .ok (.bipush 12, 2) := by decide +kernel
theorem dX9_passes_4 : decode cX9_passes 4 = .ok (.invokestatic 66, 3) := by decide +kernel
theorem dX9_passes_7 : decode cX9_passes 7 = .ok (.ifCond .ne 5, 3) := by decide +kernel
theorem dX9_passes_10 : decode cX9_passes 10 = .ok (.iconst (-1), 1) := by decide +kernel
theorem dX9_passes_11 : decode cX9_passes 11 = .ok (.ireturn, 1) := by decide +kernel
theorem dX9_passes_12 : decode cX9_passes 12 = .ok (.iconst 0, 1) := by decide +kernel
theorem dX9_passes_13 : decode cX9_passes 13 = .ok (.istore_n 2, 1) := by decide +kernel
theorem dX9_passes_14 : decode cX9_passes 14 = .ok (.iconst 0, 1) := by decide +kernel
theorem dX9_passes_15 : decode cX9_passes 15 = .ok (.istore_n 3, 1) := by decide +kernel
theorem dX9_passes_16 : decode cX9_passes 16 = .ok (.iload_n 3, 1) := by decide +kernel
theorem dX9_passes_17 : decode cX9_passes 17 = .ok (.iload_n 1, 1) := by decide +kernel
theorem dX9_passes_18 : decode cX9_passes 18 = .ok (.if_icmp .ge 62, 3) := by decide +kernel
theorem dX9_passes_21 : decode cX9_passes 21 = .ok (.iconst 0, 1) := by decide +kernel
theorem dX9_passes_22 : decode cX9_passes 22 = .ok (.istore 4, 2) := by decide +kernel
theorem dX9_passes_24 : decode cX9_passes 24 = .ok (.iload 4, 2) := by decide +kernel
theorem dX9_passes_26 : decode cX9_passes 26 = .ok (.aload_n 0, 1) := by decide +kernel
theorem dX9_passes_27 : decode cX9_passes 27 = .ok (.getfield 7, 3) := by decide +kernel
theorem dX9_passes_30 : decode cX9_passes 30 = .ok (.iconst 0, 1) := by decide +kernel
theorem dX9_passes_31 : decode cX9_passes 31 = .ok (.iaload, 1) := by decide +kernel
theorem dX9_passes_32 : decode cX9_passes 32 = .ok (.if_icmp .ge 32, 3) := by decide +kernel
theorem dX9_passes_35 : decode cX9_passes 35 = .ok (.iload_n 2, 1) := by decide +kernel
theorem dX9_passes_36 : decode cX9_passes 36 = .ok (.aload_n 0, 1) := by decide +kernel
theorem dX9_passes_37 : decode cX9_passes 37 = .ok (.iload 4, 2) := by decide +kernel
theorem dX9_passes_39 : decode cX9_passes 39 = .ok (.invokevirtual 74, 3) := by decide +kernel
theorem dX9_passes_42 : decode cX9_passes 42 = .ok (.iconst (-1), 1) := by decide +kernel
theorem dX9_passes_43 : decode cX9_passes 43 = .ok (.if_icmp .ne 7, 3) := by decide +kernel
theorem dX9_passes_46 : decode cX9_passes 46 = .ok (.iconst 0, 1) := by decide +kernel
theorem dX9_passes_47 : decode cX9_passes 47 = .ok (.goto 9, 3) := by decide +kernel
theorem dX9_passes_50 : decode cX9_passes 50 = .ok (.aload_n 0, 1) := by decide +kernel
theorem dX9_passes_51 : decode cX9_passes 51 = .ok (.iload 4, 2) := by decide +kernel
theorem dX9_passes_53 : decode cX9_passes 53 = .ok (.invokevirtual 131, 3) := by decide +kernel
theorem dX9_passes_56 : decode cX9_passes 56 = .ok (.iadd, 1) := by decide +kernel
theorem dX9_passes_57 : decode cX9_passes 57 = .ok (.istore_n 2, 1) := by decide +kernel
theorem dX9_passes_58 : decode cX9_passes 58 = .ok (.iinc 4 1, 3) := by decide +kernel
theorem dX9_passes_61 : decode cX9_passes 61 = .ok (.goto (-37), 3) := by decide +kernel
theorem dX9_passes_64 : decode cX9_passes 64 = .ok (.aload_n 0, 1) := by decide +kernel
theorem dX9_passes_65 : decode cX9_passes 65 = .ok (.getfield 7, 3) := by decide +kernel
theorem dX9_passes_68 : decode cX9_passes 68 = .ok (.iconst 4, 1) := by decide +kernel
theorem dX9_passes_69 : decode cX9_passes 69 = .ok (.dup2, 1) := by decide +kernel
theorem dX9_passes_70 : decode cX9_passes 70 = .ok (.iaload, 1) := by decide +kernel
theorem dX9_passes_71 : decode cX9_passes 71 = .ok (.iconst 1, 1) := by decide +kernel
theorem dX9_passes_72 : decode cX9_passes 72 = .ok (.iadd, 1) := by decide +kernel
theorem dX9_passes_73 : decode cX9_passes 73 = .ok (.iastore, 1) := by decide +kernel
theorem dX9_passes_74 : decode cX9_passes 74 = .ok (.iinc 3 1, 3) := by decide +kernel
theorem dX9_passes_77 : decode cX9_passes 77 = .ok (.goto (-61), 3) := by decide +kernel
theorem dX9_passes_80 : decode cX9_passes 80 = .ok (.aload_n 0, 1) := by decide +kernel
theorem dX9_passes_81 : decode cX9_passes 81 = .ok (.iload_n 2, 1) := by decide +kernel
theorem dX9_passes_82 : decode cX9_passes 82 = .ok (.invokevirtual 99, 3) := by decide +kernel
theorem dX9_passes_85 : decode cX9_passes 85 = .ok (.ireturn, 1) := by decide +kernel
theorem dX9_addBench_0 : decode cX9_addBench 0 = .ok (.aload_n 0, 1) := by decide +kernel
theorem dX9_addBench_1 : decode cX9_addBench 1 = .ok (.invokevirtual 134, 3) := by decide +kernel
theorem dX9_addBench_4 : decode cX9_addBench 4 = .ok (.aload_n 0, 1) := by decide +kernel
theorem dX9_addBench_5 : decode cX9_addBench 5 = .ok (.aload_n 0, 1) := by decide +kernel
theorem dX9_addBench_6 : decode cX9_addBench 6 = .ok (.iload_n 1, 1) := by decide +kernel
theorem dX9_addBench_7 : decode cX9_addBench 7 = .ok (.iload_n 2, 1) := by decide +kernel
theorem dX9_addBench_8 : decode cX9_addBench 8 = .ok (.iload_n 3, 1) := by decide +kernel
theorem dX9_addBench_9 : decode cX9_addBench 9 = .ok (.invokevirtual 137, 3) := by decide +kernel
theorem dX9_addBench_12 : decode cX9_addBench 12 = .ok (.iconst 3, 1) := by decide +kernel
theorem dX9_addBench_13 : decode cX9_addBench 13 = .ok (.invokevirtual 141, 3) := by decide +kernel
theorem dX9_addBench_16 : decode cX9_addBench 16 = .ok (.ireturn, 1) := by decide +kernel
theorem dX9_setRent_0 : decode cX9_setRent 0 = .ok (.aload_n 0, 1) := by decide +kernel
theorem dX9_setRent_1 : decode cX9_setRent 1 = .ok (.invokevirtual 134, 3) := by decide +kernel
theorem dX9_setRent_4 : decode cX9_setRent 4 = .ok (.aload_n 0, 1) := by decide +kernel
theorem dX9_setRent_5 : decode cX9_setRent 5 = .ok (.aload_n 0, 1) := by decide +kernel
theorem dX9_setRent_6 : decode cX9_setRent 6 = .ok (.iload_n 1, 1) := by decide +kernel
theorem dX9_setRent_7 : decode cX9_setRent 7 = .ok (.iload_n 2, 1) := by decide +kernel
theorem dX9_setRent_8 : decode cX9_setRent 8 = .ok (.invokevirtual 144, 3) := by decide +kernel
theorem dX9_setRent_11 : decode cX9_setRent 11 = .ok (.iconst 1, 1) := by decide +kernel
theorem dX9_setRent_12 : decode cX9_setRent 12 = .ok (.invokevirtual 141, 3) := by decide +kernel
theorem dX9_setRent_15 : decode cX9_setRent 15 = .ok (.ireturn, 1) := by decide +kernel
theorem dX9_addFountain_0 : decode cX9_addFountain 0 = .ok (.aload_n 0, 1) := by decide +kernel
theorem dX9_addFountain_1 : decode cX9_addFountain 1 = .ok (.invokevirtual 134, 3) := by decide +kernel
theorem dX9_addFountain_4 : decode cX9_addFountain 4 = .ok (.aload_n 0, 1) := by decide +kernel
theorem dX9_addFountain_5 : decode cX9_addFountain 5 = .ok (.aload_n 0, 1) := by decide +kernel
theorem dX9_addFountain_6 : decode cX9_addFountain 6 = .ok (.iload_n 1, 1) := by decide +kernel
theorem dX9_addFountain_7 : decode cX9_addFountain 7 = .ok (.iload_n 2, 1) := by decide +kernel
theorem dX9_addFountain_8 : decode cX9_addFountain 8 = .ok (.iload_n 3, 1) := by decide +kernel
theorem dX9_addFountain_9 : decode cX9_addFountain 9 = .ok (.invokevirtual 147, 3) := by decide +kernel
theorem dX9_addFountain_12 : decode cX9_addFountain 12 = .ok (.iconst 3, 1) := by decide +kernel
theorem dX9_addFountain_13 : decode cX9_addFountain 13 = .ok (.invokevirtual 141, 3) := by decide +kernel
theorem dX9_addFountain_16 : decode cX9_addFountain 16 = .ok (.ireturn, 1) := by decide +kernel
theorem dX9_setLoudness_0 : decode cX9_setLoudness 0 = .ok (.aload_n 0, 1) := by decide +kernel
theorem dX9_setLoudness_1 : decode cX9_setLoudness 1 = .ok (.invokevirtual 134, 3) := by decide +kernel
theorem dX9_setLoudness_4 : decode cX9_setLoudness 4 = .ok (.aload_n 0, 1) := by decide +kernel
theorem dX9_setLoudness_5 : decode cX9_setLoudness 5 = .ok (.aload_n 0, 1) := by decide +kernel
theorem dX9_setLoudness_6 : decode cX9_setLoudness 6 = .ok (.iload_n 1, 1) := by decide +kernel
theorem dX9_setLoudness_7 : decode cX9_setLoudness 7 = .ok (.iload_n 2, 1) := by decide +kernel
theorem dX9_setLoudness_8 : decode cX9_setLoudness 8 = .ok (.invokevirtual 150, 3) := by decide +kernel
theorem dX9_setLoudness_11 : decode cX9_setLoudness 11 = .ok (.iconst 1, 1) := by decide +kernel
theorem dX9_setLoudness_12 : decode cX9_setLoudness 12 = .ok (.invokevirtual 141, 3) := by decide +kernel
theorem dX9_setLoudness_15 : decode cX9_setLoudness 15 = .ok (.ireturn, 1) := by decide +kernel
theorem dX9_switchFountain_0 : decode cX9_switchFountain 0 = .ok (.aload_n 0, 1) := by decide +kernel
theorem dX9_switchFountain_1 : decode cX9_switchFountain 1 = .ok (.invokevirtual 134, 3) := by decide +kernel
theorem dX9_switchFountain_4 : decode cX9_switchFountain 4 = .ok (.aload_n 0, 1) := by decide +kernel
theorem dX9_switchFountain_5 : decode cX9_switchFountain 5 = .ok (.aload_n 0, 1) := by decide +kernel
theorem dX9_switchFountain_6 : decode cX9_switchFountain 6 = .ok (.iload_n 1, 1) := by decide +kernel
theorem dX9_switchFountain_7 : decode cX9_switchFountain 7 = .ok (.invokevirtual 153, 3) := by decide +kernel
theorem dX9_switchFountain_10 : decode cX9_switchFountain 10 = .ok (.iconst 1, 1) := by decide +kernel
theorem dX9_switchFountain_11 : decode cX9_switchFountain 11 = .ok (.invokevirtual 141, 3) := by decide +kernel
theorem dX9_switchFountain_14 : decode cX9_switchFountain 14 = .ok (.iconst 1, 1) := by decide +kernel
theorem dX9_switchFountain_15 : decode cX9_switchFountain 15 = .ok (.if_icmp .ne 7, 3) := by decide +kernel
theorem dX9_switchFountain_18 : decode cX9_switchFountain 18 = .ok (.iconst 1, 1) := by decide +kernel
theorem dX9_switchFountain_19 : decode cX9_switchFountain 19 = .ok (.goto 4, 3) := by decide +kernel
theorem dX9_switchFountain_22 : decode cX9_switchFountain 22 = .ok (.iconst 0, 1) := by decide +kernel
theorem dX9_switchFountain_23 : decode cX9_switchFountain 23 = .ok (.ireturn, 1) := by decide +kernel
theorem dX9_setNoiseLimit_0 : decode cX9_setNoiseLimit 0 = .ok (.aload_n 0, 1) := by decide +kernel
theorem dX9_setNoiseLimit_1 : decode cX9_setNoiseLimit 1 = .ok (.invokevirtual 134, 3) := by decide +kernel
theorem dX9_setNoiseLimit_4 : decode cX9_setNoiseLimit 4 = .ok (.aload_n 0, 1) := by decide +kernel
theorem dX9_setNoiseLimit_5 : decode cX9_setNoiseLimit 5 = .ok (.aload_n 0, 1) := by decide +kernel
theorem dX9_setNoiseLimit_6 : decode cX9_setNoiseLimit 6 = .ok (.iload_n 1, 1) := by decide +kernel
theorem dX9_setNoiseLimit_7 : decode cX9_setNoiseLimit 7 = .ok (.invokevirtual 156, 3) := by decide +kernel
theorem dX9_setNoiseLimit_10 : decode cX9_setNoiseLimit 10 = .ok (.iconst 1, 1) := by decide +kernel
theorem dX9_setNoiseLimit_11 : decode cX9_setNoiseLimit 11 = .ok (.invokevirtual 141, 3) := by decide +kernel
theorem dX9_setNoiseLimit_14 : decode cX9_setNoiseLimit 14 = .ok (.ireturn, 1) := by decide +kernel
theorem dX9_benchCount_0 : decode cX9_benchCount 0 = .ok (.aload_n 0, 1) := by decide +kernel
theorem dX9_benchCount_1 : decode cX9_benchCount 1 = .ok (.iconst 0, 1) := by decide +kernel
theorem dX9_benchCount_2 : decode cX9_benchCount 2 = .ok (.putfield 38, 3) := by decide +kernel
theorem dX9_benchCount_5 : decode cX9_benchCount 5 = .ok (.aload_n 0, 1) := by decide +kernel
theorem dX9_benchCount_6 : decode cX9_benchCount 6 = .ok (.getfield 7, 3) := by decide +kernel
theorem dX9_benchCount_9 : decode cX9_benchCount 9 = .ok (.iconst 0, 1) := by decide +kernel
theorem dX9_benchCount_10 : decode cX9_benchCount 10 = .ok (.iaload, 1) := by decide +kernel
theorem dX9_benchCount_11 : decode cX9_benchCount 11 = .ok (.ireturn, 1) := by decide +kernel
theorem dX9_askedBench_0 : decode cX9_askedBench 0 = .ok (.aload_n 0, 1) := by decide +kernel
theorem dX9_askedBench_1 : decode cX9_askedBench 1 = .ok (.aload_n 0, 1) := by decide +kernel
theorem dX9_askedBench_2 : decode cX9_askedBench 2 = .ok (.iload_n 1, 1) := by decide +kernel
theorem dX9_askedBench_3 : decode cX9_askedBench 3 = .ok (.invokevirtual 118, 3) := by decide +kernel
theorem dX9_askedBench_6 : decode cX9_askedBench 6 = .ok (.ifCond .eq 7, 3) := by decide +kernel
theorem dX9_askedBench_9 : decode cX9_askedBench 9 = .ok (.iconst 0, 1) := by decide +kernel
theorem dX9_askedBench_10 : decode cX9_askedBench 10 = .ok (.goto 4, 3) := by decide +kernel
theorem dX9_askedBench_13 : decode cX9_askedBench 13 = .ok (.iconst 1, 1) := by decide +kernel
theorem dX9_askedBench_14 : decode cX9_askedBench 14 = .ok (.putfield 38, 3) := by decide +kernel
theorem dX9_askedBench_17 : decode cX9_askedBench 17 = .ok (.aload_n 0, 1) := by decide +kernel
theorem dX9_askedBench_18 : decode cX9_askedBench 18 = .ok (.getfield 38, 3) := by decide +kernel
theorem dX9_askedBench_21 : decode cX9_askedBench 21 = .ok (.ifCond .le 7, 3) := by decide +kernel
theorem dX9_askedBench_24 : decode cX9_askedBench 24 = .ok (.iconst 0, 1) := by decide +kernel
theorem dX9_askedBench_25 : decode cX9_askedBench 25 = .ok (.goto 9, 3) := by decide +kernel
theorem dX9_askedBench_28 : decode cX9_askedBench 28 = .ok (.aload_n 0, 1) := by decide +kernel
theorem dX9_askedBench_29 : decode cX9_askedBench 29 = .ok (.iload_n 1, 1) := by decide +kernel
theorem dX9_askedBench_30 : decode cX9_askedBench 30 = .ok (.iload_n 2, 1) := by decide +kernel
theorem dX9_askedBench_31 : decode cX9_askedBench 31 = .ok (.invokevirtual 70, 3) := by decide +kernel
theorem dX9_askedBench_34 : decode cX9_askedBench 34 = .ok (.ireturn, 1) := by decide +kernel
theorem dX9_rowOf_0 : decode cX9_rowOf 0 = .ok (.aload_n 0, 1) := by decide +kernel
theorem dX9_rowOf_1 : decode cX9_rowOf 1 = .ok (.iload_n 1, 1) := by decide +kernel
theorem dX9_rowOf_2 : decode cX9_rowOf 2 = .ok (.iconst 0, 1) := by decide +kernel
theorem dX9_rowOf_3 : decode cX9_rowOf 3 = .ok (.invokevirtual 159, 3) := by decide +kernel
theorem dX9_rowOf_6 : decode cX9_rowOf 6 = .ok (.ireturn, 1) := by decide +kernel
theorem dX9_columnOf_0 : decode cX9_columnOf 0 = .ok (.aload_n 0, 1) := by decide +kernel
theorem dX9_columnOf_1 : decode cX9_columnOf 1 = .ok (.iload_n 1, 1) := by decide +kernel
theorem dX9_columnOf_2 : decode cX9_columnOf 2 = .ok (.iconst 1, 1) := by decide +kernel
theorem dX9_columnOf_3 : decode cX9_columnOf 3 = .ok (.invokevirtual 159, 3) := by decide +kernel
theorem dX9_columnOf_6 : decode cX9_columnOf 6 = .ok (.ireturn, 1) := by decide +kernel
theorem dX9_baseRent_0 : decode cX9_baseRent 0 = .ok (.aload_n 0, 1) := by decide +kernel
theorem dX9_baseRent_1 : decode cX9_baseRent 1 = .ok (.iload_n 1, 1) := by decide +kernel
theorem dX9_baseRent_2 : decode cX9_baseRent 2 = .ok (.iconst 2, 1) := by decide +kernel
theorem dX9_baseRent_3 : decode cX9_baseRent 3 = .ok (.invokevirtual 159, 3) := by decide +kernel
theorem dX9_baseRent_6 : decode cX9_baseRent 6 = .ok (.ireturn, 1) := by decide +kernel
theorem dX9_rentOf_0 : decode cX9_rentOf 0 = .ok (.aload_n 0, 1) := by decide +kernel
theorem dX9_rentOf_1 : decode cX9_rentOf 1 = .ok (.aload_n 0, 1) := by decide +kernel
theorem dX9_rentOf_2 : decode cX9_rentOf 2 = .ok (.iload_n 1, 1) := by decide +kernel
theorem dX9_rentOf_3 : decode cX9_rentOf 3 = .ok (.invokevirtual 118, 3) := by decide +kernel
theorem dX9_rentOf_6 : decode cX9_rentOf 6 = .ok (.ifCond .eq 7, 3) := by decide +kernel
theorem dX9_rentOf_9 : decode cX9_rentOf 9 = .ok (.iconst 0, 1) := by decide +kernel
theorem dX9_rentOf_10 : decode cX9_rentOf 10 = .ok (.goto 4, 3) := by decide +kernel
theorem dX9_rentOf_13 : decode cX9_rentOf 13 = .ok (.iconst 1, 1) := by decide +kernel
theorem dX9_rentOf_14 : decode cX9_rentOf 14 = .ok (.putfield 38, 3) := by decide +kernel
theorem dX9_rentOf_17 : decode cX9_rentOf 17 = .ok (.aload_n 0, 1) := by decide +kernel
theorem dX9_rentOf_18 : decode cX9_rentOf 18 = .ok (.getfield 38, 3) := by decide +kernel
theorem dX9_rentOf_21 : decode cX9_rentOf 21 = .ok (.ifCond .le 7, 3) := by decide +kernel
theorem dX9_rentOf_24 : decode cX9_rentOf 24 = .ok (.iconst 0, 1) := by decide +kernel
theorem dX9_rentOf_25 : decode cX9_rentOf 25 = .ok (.goto 8, 3) := by decide +kernel
theorem dX9_rentOf_28 : decode cX9_rentOf 28 = .ok (.aload_n 0, 1) := by decide +kernel
theorem dX9_rentOf_29 : decode cX9_rentOf 29 = .ok (.iload_n 1, 1) := by decide +kernel
theorem dX9_rentOf_30 : decode cX9_rentOf 30 = .ok (.invokevirtual 115, 3) := by decide +kernel
theorem dX9_rentOf_33 : decode cX9_rentOf 33 = .ok (.ireturn, 1) := by decide +kernel
theorem dX9_fountainCount_0 : decode cX9_fountainCount 0 = .ok (.aload_n 0, 1) := by decide +kernel
theorem dX9_fountainCount_1 : decode cX9_fountainCount 1 = .ok (.iconst 0, 1) := by decide +kernel
theorem dX9_fountainCount_2 : decode cX9_fountainCount 2 = .ok (.putfield 38, 3) := by decide +kernel
theorem dX9_fountainCount_5 : decode cX9_fountainCount 5 = .ok (.aload_n 0, 1) := by decide +kernel
theorem dX9_fountainCount_6 : decode cX9_fountainCount 6 = .ok (.getfield 7, 3) := by decide +kernel
theorem dX9_fountainCount_9 : decode cX9_fountainCount 9 = .ok (.iconst 1, 1) := by decide +kernel
theorem dX9_fountainCount_10 : decode cX9_fountainCount 10 = .ok (.iaload, 1) := by decide +kernel
theorem dX9_fountainCount_11 : decode cX9_fountainCount 11 = .ok (.ireturn, 1) := by decide +kernel
theorem dX9_loudnessOf_0 : decode cX9_loudnessOf 0 = .ok (.aload_n 0, 1) := by decide +kernel
theorem dX9_loudnessOf_1 : decode cX9_loudnessOf 1 = .ok (.aload_n 0, 1) := by decide +kernel
theorem dX9_loudnessOf_2 : decode cX9_loudnessOf 2 = .ok (.iload_n 1, 1) := by decide +kernel
theorem dX9_loudnessOf_3 : decode cX9_loudnessOf 3 = .ok (.invokevirtual 128, 3) := by decide +kernel
theorem dX9_loudnessOf_6 : decode cX9_loudnessOf 6 = .ok (.ifCond .eq 7, 3) := by decide +kernel
theorem dX9_loudnessOf_9 : decode cX9_loudnessOf 9 = .ok (.iconst 0, 1) := by decide +kernel
theorem dX9_loudnessOf_10 : decode cX9_loudnessOf 10 = .ok (.goto 4, 3) := by decide +kernel
theorem dX9_loudnessOf_13 : decode cX9_loudnessOf 13 = .ok (.iconst 1, 1) := by decide +kernel
theorem dX9_loudnessOf_14 : decode cX9_loudnessOf 14 = .ok (.putfield 38, 3) := by decide +kernel
theorem dX9_loudnessOf_17 : decode cX9_loudnessOf 17 = .ok (.aload_n 0, 1) := by decide +kernel
theorem dX9_loudnessOf_18 : decode cX9_loudnessOf 18 = .ok (.getfield 38, 3) := by decide +kernel
theorem dX9_loudnessOf_21 : decode cX9_loudnessOf 21 = .ok (.ifCond .le 7, 3) := by decide +kernel
theorem dX9_loudnessOf_24 : decode cX9_loudnessOf 24 = .ok (.iconst 0, 1) := by decide +kernel
theorem dX9_loudnessOf_25 : decode cX9_loudnessOf 25 = .ok (.goto 9, 3) := by decide +kernel
theorem dX9_loudnessOf_28 : decode cX9_loudnessOf 28 = .ok (.aload_n 0, 1) := by decide +kernel
theorem dX9_loudnessOf_29 : decode cX9_loudnessOf 29 = .ok (.iload_n 1, 1) := by decide +kernel
theorem dX9_loudnessOf_30 : decode cX9_loudnessOf 30 = .ok (.iconst 2, 1) := by decide +kernel
theorem dX9_loudnessOf_31 : decode cX9_loudnessOf 31 = .ok (.invokevirtual 77, 3) := by decide +kernel
theorem dX9_loudnessOf_34 : decode cX9_loudnessOf 34 = .ok (.ireturn, 1) := by decide +kernel
theorem dX9_isRunning_0 : decode cX9_isRunning 0 = .ok (.aload_n 0, 1) := by decide +kernel
theorem dX9_isRunning_1 : decode cX9_isRunning 1 = .ok (.aload_n 0, 1) := by decide +kernel
theorem dX9_isRunning_2 : decode cX9_isRunning 2 = .ok (.iload_n 1, 1) := by decide +kernel
theorem dX9_isRunning_3 : decode cX9_isRunning 3 = .ok (.invokevirtual 128, 3) := by decide +kernel
theorem dX9_isRunning_6 : decode cX9_isRunning 6 = .ok (.ifCond .eq 7, 3) := by decide +kernel
theorem dX9_isRunning_9 : decode cX9_isRunning 9 = .ok (.iconst 0, 1) := by decide +kernel
theorem dX9_isRunning_10 : decode cX9_isRunning 10 = .ok (.goto 4, 3) := by decide +kernel
theorem dX9_isRunning_13 : decode cX9_isRunning 13 = .ok (.iconst 1, 1) := by decide +kernel
theorem dX9_isRunning_14 : decode cX9_isRunning 14 = .ok (.putfield 38, 3) := by decide +kernel
theorem dX9_isRunning_17 : decode cX9_isRunning 17 = .ok (.aload_n 0, 1) := by decide +kernel
theorem dX9_isRunning_18 : decode cX9_isRunning 18 = .ok (.getfield 38, 3) := by decide +kernel
theorem dX9_isRunning_21 : decode cX9_isRunning 21 = .ok (.ifCond .ne 17, 3) := by decide +kernel
theorem dX9_isRunning_24 : decode cX9_isRunning 24 = .ok (.aload_n 0, 1) := by decide +kernel
theorem dX9_isRunning_25 : decode cX9_isRunning 25 = .ok (.iload_n 1, 1) := by decide +kernel
theorem dX9_isRunning_26 : decode cX9_isRunning 26 = .ok (.iconst 3, 1) := by decide +kernel
theorem dX9_isRunning_27 : decode cX9_isRunning 27 = .ok (.invokevirtual 77, 3) := by decide +kernel
theorem dX9_isRunning_30 : decode cX9_isRunning 30 = .ok (.iconst 1, 1) := by decide +kernel
theorem dX9_isRunning_31 : decode cX9_isRunning 31 = .ok (.if_icmp .ne 7, 3) := by decide +kernel
theorem dX9_isRunning_34 : decode cX9_isRunning 34 = .ok (.iconst 1, 1) := by decide +kernel
theorem dX9_isRunning_35 : decode cX9_isRunning 35 = .ok (.goto 4, 3) := by decide +kernel
theorem dX9_isRunning_38 : decode cX9_isRunning 38 = .ok (.iconst 0, 1) := by decide +kernel
theorem dX9_isRunning_39 : decode cX9_isRunning 39 = .ok (.ireturn, 1) := by decide +kernel
theorem dX9_noiseLimit_0 : decode cX9_noiseLimit 0 = .ok (.aload_n 0, 1) := by decide +kernel
theorem dX9_noiseLimit_1 : decode cX9_noiseLimit 1 = .ok (.iconst 0, 1) := by decide +kernel
theorem dX9_noiseLimit_2 : decode cX9_noiseLimit 2 = .ok (.putfield 38, 3) := by decide +kernel
theorem dX9_noiseLimit_5 : decode cX9_noiseLimit 5 = .ok (.aload_n 0, 1) := by decide +kernel
theorem dX9_noiseLimit_6 : decode cX9_noiseLimit 6 = .ok (.getfield 7, 3) := by decide +kernel
theorem dX9_noiseLimit_9 : decode cX9_noiseLimit 9 = .ok (.iconst 3, 1) := by decide +kernel
theorem dX9_noiseLimit_10 : decode cX9_noiseLimit 10 = .ok (.iaload, 1) := by decide +kernel
theorem dX9_noiseLimit_11 : decode cX9_noiseLimit 11 = .ok (.ireturn, 1) := by decide +kernel
theorem dX9_noiseAt_0 : decode cX9_noiseAt 0 = .ok (.aload_n 0, 1) := by decide +kernel
theorem dX9_noiseAt_1 : decode cX9_noiseAt 1 = .ok (.iload_n 1, 1) := by decide +kernel
theorem dX9_noiseAt_2 : decode cX9_noiseAt 2 = .ok (.iload_n 2, 1) := by decide +kernel
theorem dX9_noiseAt_3 : decode cX9_noiseAt 3 = .ok (.invokestatic 89, 3) := by decide +kernel
theorem dX9_noiseAt_6 : decode cX9_noiseAt 6 = .ok (.ifCond .eq 7, 3) := by decide +kernel
theorem dX9_noiseAt_9 : decode cX9_noiseAt 9 = .ok (.iconst 0, 1) := by decide +kernel
theorem dX9_noiseAt_10 : decode cX9_noiseAt 10 = .ok (.goto 4, 3) := by decide +kernel
theorem dX9_noiseAt_13 : decode cX9_noiseAt 13 = .ok (.iconst 1, 1) := by decide +kernel
theorem dX9_noiseAt_14 : decode cX9_noiseAt 14 = .ok (.putfield 38, 3) := by decide +kernel
theorem dX9_noiseAt_17 : decode cX9_noiseAt 17 = .ok (.aload_n 0, 1) := by decide +kernel
theorem dX9_noiseAt_18 : decode cX9_noiseAt 18 = .ok (.getfield 38, 3) := by decide +kernel
theorem dX9_noiseAt_21 : decode cX9_noiseAt 21 = .ok (.ifCond .le 7, 3) := by decide +kernel
theorem dX9_noiseAt_24 : decode cX9_noiseAt 24 = .ok (.iconst 0, 1) := by decide +kernel
theorem dX9_noiseAt_25 : decode cX9_noiseAt 25 = .ok (.goto 9, 3) := by decide +kernel
theorem dX9_noiseAt_28 : decode cX9_noiseAt 28 = .ok (.aload_n 0, 1) := by decide +kernel
theorem dX9_noiseAt_29 : decode cX9_noiseAt 29 = .ok (.iload_n 1, 1) := by decide +kernel
theorem dX9_noiseAt_30 : decode cX9_noiseAt 30 = .ok (.iload_n 2, 1) := by decide +kernel
theorem dX9_noiseAt_31 : decode cX9_noiseAt 31 = .ok (.invokevirtual 83, 3) := by decide +kernel
theorem dX9_noiseAt_34 : decode cX9_noiseAt 34 = .ok (.ireturn, 1) := by decide +kernel
theorem dX9_noiseBySpreading_0 : decode cX9_noiseBySpreading 0 = .ok (.aload_n 0, 1) := by decide +kernel
theorem dX9_noiseBySpreading_1 : decode cX9_noiseBySpreading 1 = .ok (.iload_n 1, 1) := by decide +kernel
theorem dX9_noiseBySpreading_2 : decode cX9_noiseBySpreading 2 = .ok (.iload_n 2, 1) := by decide +kernel
theorem dX9_noiseBySpreading_3 : decode cX9_noiseBySpreading 3 = .ok (.invokevirtual 162, 3) := by decide +kernel
theorem dX9_noiseBySpreading_6 : decode cX9_noiseBySpreading 6 = .ok (.ireturn, 1) := by decide +kernel
theorem dX9_isQuiet_0 : decode cX9_isQuiet 0 = .ok (.aload_n 0, 1) := by decide +kernel
theorem dX9_isQuiet_1 : decode cX9_isQuiet 1 = .ok (.aload_n 0, 1) := by decide +kernel
theorem dX9_isQuiet_2 : decode cX9_isQuiet 2 = .ok (.iload_n 1, 1) := by decide +kernel
theorem dX9_isQuiet_3 : decode cX9_isQuiet 3 = .ok (.invokevirtual 118, 3) := by decide +kernel
theorem dX9_isQuiet_6 : decode cX9_isQuiet 6 = .ok (.ifCond .eq 7, 3) := by decide +kernel
theorem dX9_isQuiet_9 : decode cX9_isQuiet 9 = .ok (.iconst 0, 1) := by decide +kernel
theorem dX9_isQuiet_10 : decode cX9_isQuiet 10 = .ok (.goto 4, 3) := by decide +kernel
theorem dX9_isQuiet_13 : decode cX9_isQuiet 13 = .ok (.iconst 1, 1) := by decide +kernel
theorem dX9_isQuiet_14 : decode cX9_isQuiet 14 = .ok (.putfield 38, 3) := by decide +kernel
theorem dX9_isQuiet_17 : decode cX9_isQuiet 17 = .ok (.aload_n 0, 1) := by decide +kernel
theorem dX9_isQuiet_18 : decode cX9_isQuiet 18 = .ok (.getfield 38, 3) := by decide +kernel
theorem dX9_isQuiet_21 : decode cX9_isQuiet 21 = .ok (.ifCond .ne 15, 3) := by decide +kernel
theorem dX9_isQuiet_24 : decode cX9_isQuiet 24 = .ok (.aload_n 0, 1) := by decide +kernel
theorem dX9_isQuiet_25 : decode cX9_isQuiet 25 = .ok (.iload_n 1, 1) := by decide +kernel
theorem dX9_isQuiet_26 : decode cX9_isQuiet 26 = .ok (.invokevirtual 112, 3) := by decide +kernel
theorem dX9_isQuiet_29 : decode cX9_isQuiet 29 = .ok (.ifCond .eq 7, 3) := by decide +kernel
theorem dX9_isQuiet_32 : decode cX9_isQuiet 32 = .ok (.iconst 1, 1) := by decide +kernel
theorem dX9_isQuiet_33 : decode cX9_isQuiet 33 = .ok (.goto 4, 3) := by decide +kernel
theorem dX9_isQuiet_36 : decode cX9_isQuiet 36 = .ok (.iconst 0, 1) := by decide +kernel
theorem dX9_isQuiet_37 : decode cX9_isQuiet 37 = .ok (.ireturn, 1) := by decide +kernel
theorem dX9_quietCount_0 : decode cX9_quietCount 0 = .ok (.aload_n 0, 1) := by decide +kernel
theorem dX9_quietCount_1 : decode cX9_quietCount 1 = .ok (.iconst 0, 1) := by decide +kernel
theorem dX9_quietCount_2 : decode cX9_quietCount 2 = .ok (.putfield 38, 3) := by decide +kernel
theorem dX9_quietCount_5 : decode cX9_quietCount 5 = .ok (.iconst 0, 1) := by decide +kernel
theorem dX9_quietCount_6 : decode cX9_quietCount 6 = .ok (.istore_n 1, 1) := by decide +kernel
theorem dX9_quietCount_7 : decode cX9_quietCount 7 = .ok (.iconst 0, 1) := by decide +kernel
theorem dX9_quietCount_8 : decode cX9_quietCount 8 = .ok (.istore_n 2, 1) := by decide +kernel
theorem dX9_quietCount_9 : decode cX9_quietCount 9 = .ok (.iload_n 2, 1) := by decide +kernel
theorem dX9_quietCount_10 : decode cX9_quietCount 10 = .ok (.aload_n 0, 1) := by decide +kernel
theorem dX9_quietCount_11 : decode cX9_quietCount 11 = .ok (.getfield 7, 3) := by decide +kernel
theorem dX9_quietCount_14 : decode cX9_quietCount 14 = .ok (.iconst 0, 1) := by decide +kernel
theorem dX9_quietCount_15 : decode cX9_quietCount 15 = .ok (.iaload, 1) := by decide +kernel
theorem dX9_quietCount_16 : decode cX9_quietCount 16 = .ok (.if_icmp .ge 25, 3) := by decide +kernel
theorem dX9_quietCount_19 : decode cX9_quietCount 19 = .ok (.iload_n 1, 1) := by decide +kernel
theorem dX9_quietCount_20 : decode cX9_quietCount 20 = .ok (.aload_n 0, 1) := by decide +kernel
theorem dX9_quietCount_21 : decode cX9_quietCount 21 = .ok (.iload_n 2, 1) := by decide +kernel
theorem dX9_quietCount_22 : decode cX9_quietCount 22 = .ok (.invokevirtual 112, 3) := by decide +kernel
theorem dX9_quietCount_25 : decode cX9_quietCount 25 = .ok (.ifCond .eq 7, 3) := by decide +kernel
theorem dX9_quietCount_28 : decode cX9_quietCount 28 = .ok (.iconst 1, 1) := by decide +kernel
theorem dX9_quietCount_29 : decode cX9_quietCount 29 = .ok (.goto 4, 3) := by decide +kernel
theorem dX9_quietCount_32 : decode cX9_quietCount 32 = .ok (.iconst 0, 1) := by decide +kernel
theorem dX9_quietCount_33 : decode cX9_quietCount 33 = .ok (.iadd, 1) := by decide +kernel
theorem dX9_quietCount_34 : decode cX9_quietCount 34 = .ok (.istore_n 1, 1) := by decide +kernel
theorem dX9_quietCount_35 : decode cX9_quietCount 35 = .ok (.iinc 2 1, 3) := by decide +kernel
theorem dX9_quietCount_38 : decode cX9_quietCount 38 = .ok (.goto (-29), 3) := by decide +kernel
theorem dX9_quietCount_41 : decode cX9_quietCount 41 = .ok (.iload_n 1, 1) := by decide +kernel
theorem dX9_quietCount_42 : decode cX9_quietCount 42 = .ok (.ireturn, 1) := by decide +kernel
theorem dX9_addTenant_0 : decode cX9_addTenant 0 = .ok (.aload_n 0, 1) := by decide +kernel
theorem dX9_addTenant_1 : decode cX9_addTenant 1 = .ok (.invokevirtual 134, 3) := by decide +kernel
theorem dX9_addTenant_4 : decode cX9_addTenant 4 = .ok (.aload_n 0, 1) := by decide +kernel
theorem dX9_addTenant_5 : decode cX9_addTenant 5 = .ok (.aload_n 0, 1) := by decide +kernel
theorem dX9_addTenant_6 : decode cX9_addTenant 6 = .ok (.iload_n 1, 1) := by decide +kernel
theorem dX9_addTenant_7 : decode cX9_addTenant 7 = .ok (.invokevirtual 165, 3) := by decide +kernel
theorem dX9_addTenant_10 : decode cX9_addTenant 10 = .ok (.iconst 2, 1) := by decide +kernel
theorem dX9_addTenant_11 : decode cX9_addTenant 11 = .ok (.invokevirtual 141, 3) := by decide +kernel
theorem dX9_addTenant_14 : decode cX9_addTenant 14 = .ok (.ireturn, 1) := by decide +kernel
theorem dX9_giveCoins_0 : decode cX9_giveCoins 0 = .ok (.aload_n 0, 1) := by decide +kernel
theorem dX9_giveCoins_1 : decode cX9_giveCoins 1 = .ok (.invokevirtual 134, 3) := by decide +kernel
theorem dX9_giveCoins_4 : decode cX9_giveCoins 4 = .ok (.aload_n 0, 1) := by decide +kernel
theorem dX9_giveCoins_5 : decode cX9_giveCoins 5 = .ok (.aload_n 0, 1) := by decide +kernel
theorem dX9_giveCoins_6 : decode cX9_giveCoins 6 = .ok (.iload_n 1, 1) := by decide +kernel
theorem dX9_giveCoins_7 : decode cX9_giveCoins 7 = .ok (.iload_n 2, 1) := by decide +kernel
theorem dX9_giveCoins_8 : decode cX9_giveCoins 8 = .ok (.invokevirtual 168, 3) := by decide +kernel
theorem dX9_giveCoins_11 : decode cX9_giveCoins 11 = .ok (.iconst 1, 1) := by decide +kernel
theorem dX9_giveCoins_12 : decode cX9_giveCoins 12 = .ok (.invokevirtual 141, 3) := by decide +kernel
theorem dX9_giveCoins_15 : decode cX9_giveCoins 15 = .ok (.ireturn, 1) := by decide +kernel
theorem dX9_tenantCount_0 : decode cX9_tenantCount 0 = .ok (.aload_n 0, 1) := by decide +kernel
theorem dX9_tenantCount_1 : decode cX9_tenantCount 1 = .ok (.iconst 0, 1) := by decide +kernel
theorem dX9_tenantCount_2 : decode cX9_tenantCount 2 = .ok (.putfield 38, 3) := by decide +kernel
theorem dX9_tenantCount_5 : decode cX9_tenantCount 5 = .ok (.aload_n 0, 1) := by decide +kernel
theorem dX9_tenantCount_6 : decode cX9_tenantCount 6 = .ok (.getfield 7, 3) := by decide +kernel
theorem dX9_tenantCount_9 : decode cX9_tenantCount 9 = .ok (.iconst 2, 1) := by decide +kernel
theorem dX9_tenantCount_10 : decode cX9_tenantCount 10 = .ok (.iaload, 1) := by decide +kernel
theorem dX9_tenantCount_11 : decode cX9_tenantCount 11 = .ok (.ireturn, 1) := by decide +kernel
theorem dX9_askedTenant_0 : decode cX9_askedTenant 0 = .ok (.aload_n 0, 1) := by decide +kernel
theorem dX9_askedTenant_1 : decode cX9_askedTenant 1 = .ok (.aload_n 0, 1) := by decide +kernel
theorem dX9_askedTenant_2 : decode cX9_askedTenant 2 = .ok (.iload_n 1, 1) := by decide +kernel
theorem dX9_askedTenant_3 : decode cX9_askedTenant 3 = .ok (.invokevirtual 102, 3) := by decide +kernel
theorem dX9_askedTenant_6 : decode cX9_askedTenant 6 = .ok (.ifCond .eq 7, 3) := by decide +kernel
theorem dX9_askedTenant_9 : decode cX9_askedTenant 9 = .ok (.iconst 0, 1) := by decide +kernel
theorem dX9_askedTenant_10 : decode cX9_askedTenant 10 = .ok (.goto 4, 3) := by decide +kernel
theorem dX9_askedTenant_13 : decode cX9_askedTenant 13 = .ok (.iconst 1, 1) := by decide +kernel
theorem dX9_askedTenant_14 : decode cX9_askedTenant 14 = .ok (.putfield 38, 3) := by decide +kernel
theorem dX9_askedTenant_17 : decode cX9_askedTenant 17 = .ok (.aload_n 0, 1) := by decide +kernel
theorem dX9_askedTenant_18 : decode cX9_askedTenant 18 = .ok (.getfield 38, 3) := by decide +kernel
theorem dX9_askedTenant_21 : decode cX9_askedTenant 21 = .ok (.ifCond .le 7, 3) := by decide +kernel
theorem dX9_askedTenant_24 : decode cX9_askedTenant 24 = .ok (.iconst 0, 1) := by decide +kernel
theorem dX9_askedTenant_25 : decode cX9_askedTenant 25 = .ok (.goto 9, 3) := by decide +kernel
theorem dX9_askedTenant_28 : decode cX9_askedTenant 28 = .ok (.aload_n 0, 1) := by decide +kernel
theorem dX9_askedTenant_29 : decode cX9_askedTenant 29 = .ok (.iload_n 1, 1) := by decide +kernel
theorem dX9_askedTenant_30 : decode cX9_askedTenant 30 = .ok (.iload_n 2, 1) := by decide +kernel
theorem dX9_askedTenant_31 : decode cX9_askedTenant 31 = .ok (.invokevirtual 106, 3) := by decide +kernel
theorem dX9_askedTenant_34 : decode cX9_askedTenant 34 = .ok (.ireturn, 1) := by decide +kernel
theorem dX9_coinsOf_0 : decode cX9_coinsOf 0 = .ok (.aload_n 0, 1) := by decide +kernel
theorem dX9_coinsOf_1 : decode cX9_coinsOf 1 = .ok (.iload_n 1, 1) := by decide +kernel
theorem dX9_coinsOf_2 : decode cX9_coinsOf 2 = .ok (.iconst 0, 1) := by decide +kernel
theorem dX9_coinsOf_3 : decode cX9_coinsOf 3 = .ok (.invokevirtual 171, 3) := by decide +kernel
theorem dX9_coinsOf_6 : decode cX9_coinsOf 6 = .ok (.ireturn, 1) := by decide +kernel
theorem dX9_defaultsOf_0 : decode cX9_defaultsOf 0 = .ok (.aload_n 0, 1) := by decide +kernel
theorem dX9_defaultsOf_1 : decode cX9_defaultsOf 1 = .ok (.iload_n 1, 1) := by decide +kernel
theorem dX9_defaultsOf_2 : decode cX9_defaultsOf 2 = .ok (.iconst 1, 1) := by decide +kernel
theorem dX9_defaultsOf_3 : decode cX9_defaultsOf 3 = .ok (.invokevirtual 171, 3) := by decide +kernel
theorem dX9_defaultsOf_6 : decode cX9_defaultsOf 6 = .ok (.ireturn, 1) := by decide +kernel
theorem dX9_benchOf_0 : decode cX9_benchOf 0 = .ok (.aload_n 0, 1) := by decide +kernel
theorem dX9_benchOf_1 : decode cX9_benchOf 1 = .ok (.aload_n 0, 1) := by decide +kernel
theorem dX9_benchOf_2 : decode cX9_benchOf 2 = .ok (.iload_n 1, 1) := by decide +kernel
theorem dX9_benchOf_3 : decode cX9_benchOf 3 = .ok (.invokevirtual 102, 3) := by decide +kernel
theorem dX9_benchOf_6 : decode cX9_benchOf 6 = .ok (.ifCond .ne 7, 3) := by decide +kernel
theorem dX9_benchOf_9 : decode cX9_benchOf 9 = .ok (.iconst 1, 1) := by decide +kernel
theorem dX9_benchOf_10 : decode cX9_benchOf 10 = .ok (.goto 17, 3) := by decide +kernel
theorem dX9_benchOf_13 : decode cX9_benchOf 13 = .ok (.aload_n 0, 1) := by decide +kernel
theorem dX9_benchOf_14 : decode cX9_benchOf 14 = .ok (.iload_n 1, 1) := by decide +kernel
theorem dX9_benchOf_15 : decode cX9_benchOf 15 = .ok (.invokevirtual 109, 3) := by decide +kernel
theorem dX9_benchOf_18 : decode cX9_benchOf 18 = .ok (.iconst (-1), 1) := by decide +kernel
theorem dX9_benchOf_19 : decode cX9_benchOf 19 = .ok (.if_icmp .ne 7, 3) := by decide +kernel
theorem dX9_benchOf_22 : decode cX9_benchOf 22 = .ok (.iconst 2, 1) := by decide +kernel
theorem dX9_benchOf_23 : decode cX9_benchOf 23 = .ok (.goto 4, 3) := by decide +kernel
theorem dX9_benchOf_26 : decode cX9_benchOf 26 = .ok (.iconst 0, 1) := by decide +kernel
theorem dX9_benchOf_27 : decode cX9_benchOf 27 = .ok (.putfield 38, 3) := by decide +kernel
theorem dX9_benchOf_30 : decode cX9_benchOf 30 = .ok (.aload_n 0, 1) := by decide +kernel
theorem dX9_benchOf_31 : decode cX9_benchOf 31 = .ok (.getfield 38, 3) := by decide +kernel
theorem dX9_benchOf_34 : decode cX9_benchOf 34 = .ok (.ifCond .le 7, 3) := by decide +kernel
theorem dX9_benchOf_37 : decode cX9_benchOf 37 = .ok (.iconst 0, 1) := by decide +kernel
theorem dX9_benchOf_38 : decode cX9_benchOf 38 = .ok (.goto 8, 3) := by decide +kernel
theorem dX9_benchOf_41 : decode cX9_benchOf 41 = .ok (.aload_n 0, 1) := by decide +kernel
theorem dX9_benchOf_42 : decode cX9_benchOf 42 = .ok (.iload_n 1, 1) := by decide +kernel
theorem dX9_benchOf_43 : decode cX9_benchOf 43 = .ok (.invokevirtual 109, 3) := by decide +kernel
theorem dX9_benchOf_46 : decode cX9_benchOf 46 = .ok (.ireturn, 1) := by decide +kernel
theorem dX9_canLease_0 : decode cX9_canLease 0 = .ok (.aload_n 0, 1) := by decide +kernel
theorem dX9_canLease_1 : decode cX9_canLease 1 = .ok (.aload_n 0, 1) := by decide +kernel
theorem dX9_canLease_2 : decode cX9_canLease 2 = .ok (.iload_n 1, 1) := by decide +kernel
theorem dX9_canLease_3 : decode cX9_canLease 3 = .ok (.invokevirtual 102, 3) := by decide +kernel
theorem dX9_canLease_6 : decode cX9_canLease 6 = .ok (.ifCond .eq 15, 3) := by decide +kernel
theorem dX9_canLease_9 : decode cX9_canLease 9 = .ok (.aload_n 0, 1) := by decide +kernel
theorem dX9_canLease_10 : decode cX9_canLease 10 = .ok (.iload_n 2, 1) := by decide +kernel
theorem dX9_canLease_11 : decode cX9_canLease 11 = .ok (.invokevirtual 118, 3) := by decide +kernel
theorem dX9_canLease_14 : decode cX9_canLease 14 = .ok (.ifCond .eq 7, 3) := by decide +kernel
theorem dX9_canLease_17 : decode cX9_canLease 17 = .ok (.iconst 0, 1) := by decide +kernel
theorem dX9_canLease_18 : decode cX9_canLease 18 = .ok (.goto 4, 3) := by decide +kernel
theorem dX9_canLease_21 : decode cX9_canLease 21 = .ok (.iconst 1, 1) := by decide +kernel
theorem dX9_canLease_22 : decode cX9_canLease 22 = .ok (.putfield 38, 3) := by decide +kernel
theorem dX9_canLease_25 : decode cX9_canLease 25 = .ok (.aload_n 0, 1) := by decide +kernel
theorem dX9_canLease_26 : decode cX9_canLease 26 = .ok (.getfield 38, 3) := by decide +kernel
theorem dX9_canLease_29 : decode cX9_canLease 29 = .ok (.ifCond .ne 16, 3) := by decide +kernel
theorem dX9_canLease_32 : decode cX9_canLease 32 = .ok (.aload_n 0, 1) := by decide +kernel
theorem dX9_canLease_33 : decode cX9_canLease 33 = .ok (.iload_n 1, 1) := by decide +kernel
theorem dX9_canLease_34 : decode cX9_canLease 34 = .ok (.iload_n 2, 1) := by decide +kernel
theorem dX9_canLease_35 : decode cX9_canLease 35 = .ok (.invokevirtual 121, 3) := by decide +kernel
theorem dX9_canLease_38 : decode cX9_canLease 38 = .ok (.ifCond .ne 7, 3) := by decide +kernel
theorem dX9_canLease_41 : decode cX9_canLease 41 = .ok (.iconst 1, 1) := by decide +kernel
theorem dX9_canLease_42 : decode cX9_canLease 42 = .ok (.goto 4, 3) := by decide +kernel
theorem dX9_canLease_45 : decode cX9_canLease 45 = .ok (.iconst 0, 1) := by decide +kernel
theorem dX9_canLease_46 : decode cX9_canLease 46 = .ok (.ireturn, 1) := by decide +kernel
theorem dX9_cheapestFor_0 : decode cX9_cheapestFor 0 = .ok (.aload_n 0, 1) := by decide +kernel
theorem dX9_cheapestFor_1 : decode cX9_cheapestFor 1 = .ok (.aload_n 0, 1) := by decide +kernel
theorem dX9_cheapestFor_2 : decode cX9_cheapestFor 2 = .ok (.iload_n 1, 1) := by decide +kernel
theorem dX9_cheapestFor_3 : decode cX9_cheapestFor 3 = .ok (.invokevirtual 102, 3) := by decide +kernel
theorem dX9_cheapestFor_6 : decode cX9_cheapestFor 6 = .ok (.ifCond .eq 7, 3) := by decide +kernel
theorem dX9_cheapestFor_9 : decode cX9_cheapestFor 9 = .ok (.iconst 0, 1) := by decide +kernel
theorem dX9_cheapestFor_10 : decode cX9_cheapestFor 10 = .ok (.goto 4, 3) := by decide +kernel
theorem dX9_cheapestFor_13 : decode cX9_cheapestFor 13 = .ok (.iconst 1, 1) := by decide +kernel
theorem dX9_cheapestFor_14 : decode cX9_cheapestFor 14 = .ok (.putfield 38, 3) := by decide +kernel
theorem dX9_cheapestFor_17 : decode cX9_cheapestFor 17 = .ok (.aload_n 0, 1) := by decide +kernel
theorem dX9_cheapestFor_18 : decode cX9_cheapestFor 18 = .ok (.getfield 38, 3) := by decide +kernel
theorem dX9_cheapestFor_21 : decode cX9_cheapestFor 21 = .ok (.ifCond .le 5, 3) := by decide +kernel
theorem dX9_cheapestFor_24 : decode cX9_cheapestFor 24 = .ok (.iconst 0, 1) := by decide +kernel
theorem dX9_cheapestFor_25 : decode cX9_cheapestFor 25 = .ok (.ireturn, 1) := by decide +kernel
theorem dX9_cheapestFor_26 : decode cX9_cheapestFor 26 = .ok (.iconst (-1), 1) := by decide +kernel
theorem dX9_cheapestFor_27 : decode cX9_cheapestFor 27 = .ok (.istore_n 2, 1) := by decide +kernel
theorem dX9_cheapestFor_28 : decode cX9_cheapestFor 28 = .ok (.iconst 0, 1) := by decide +kernel
theorem dX9_cheapestFor_29 : decode cX9_cheapestFor 29 = .ok (.istore_n 3, 1) := by decide +kernel
theorem dX9_cheapestFor_30 : decode cX9_cheapestFor 30 = .ok (.iload_n 3, 1) := by decide +kernel
theorem dX9_cheapestFor_31 : decode cX9_cheapestFor 31 = .ok (.aload_n 0, 1) := by decide +kernel
theorem dX9_cheapestFor_32 : decode cX9_cheapestFor 32 = .ok (.getfield 7, 3) := by decide +kernel
theorem dX9_cheapestFor_35 : decode cX9_cheapestFor 35 = .ok (.iconst 0, 1) := by decide +kernel
theorem dX9_cheapestFor_36 : decode cX9_cheapestFor 36 = .ok (.iaload, 1) := by decide +kernel
theorem dX9_cheapestFor_37 : decode cX9_cheapestFor 37 = .ok (.if_icmp .ge 38, 3) := by decide +kernel
theorem dX9_cheapestFor_40 : decode cX9_cheapestFor 40 = .ok (.aload_n 0, 1) := by decide +kernel
theorem dX9_cheapestFor_41 : decode cX9_cheapestFor 41 = .ok (.iload_n 1, 1) := by decide +kernel
theorem dX9_cheapestFor_42 : decode cX9_cheapestFor 42 = .ok (.iload_n 3, 1) := by decide +kernel
theorem dX9_cheapestFor_43 : decode cX9_cheapestFor 43 = .ok (.invokevirtual 121, 3) := by decide +kernel
theorem dX9_cheapestFor_46 : decode cX9_cheapestFor 46 = .ok (.ifCond .ne 23, 3) := by decide +kernel
theorem dX9_cheapestFor_49 : decode cX9_cheapestFor 49 = .ok (.iload_n 2, 1) := by decide +kernel
theorem dX9_cheapestFor_50 : decode cX9_cheapestFor 50 = .ok (.iconst (-1), 1) := by decide +kernel
theorem dX9_cheapestFor_51 : decode cX9_cheapestFor 51 = .ok (.if_icmp .eq 16, 3) := by decide +kernel
theorem dX9_cheapestFor_54 : decode cX9_cheapestFor 54 = .ok (.aload_n 0, 1) := by decide +kernel
theorem dX9_cheapestFor_55 : decode cX9_cheapestFor 55 = .ok (.iload_n 3, 1) := by decide +kernel
theorem dX9_cheapestFor_56 : decode cX9_cheapestFor 56 = .ok (.invokevirtual 115, 3) := by decide +kernel
theorem dX9_cheapestFor_59 : decode cX9_cheapestFor 59 = .ok (.aload_n 0, 1) := by decide +kernel
theorem dX9_cheapestFor_60 : decode cX9_cheapestFor 60 = .ok (.iload_n 2, 1) := by decide +kernel
theorem dX9_cheapestFor_61 : decode cX9_cheapestFor 61 = .ok (.invokevirtual 115, 3) := by decide +kernel
theorem dX9_cheapestFor_64 : decode cX9_cheapestFor 64 = .ok (.if_icmp .ge 5, 3) := by decide +kernel
theorem dX9_cheapestFor_67 : decode cX9_cheapestFor 67 = .ok (.iload_n 3, 1) := by decide +kernel
theorem dX9_cheapestFor_68 : decode cX9_cheapestFor 68 = .ok (.istore_n 2, 1) := by decide +kernel
theorem dX9_cheapestFor_69 : decode cX9_cheapestFor 69 = .ok (.iinc 3 1, 3) := by decide +kernel
theorem dX9_cheapestFor_72 : decode cX9_cheapestFor 72 = .ok (.goto (-42), 3) := by decide +kernel
theorem dX9_cheapestFor_75 : decode cX9_cheapestFor 75 = .ok (.iload_n 2, 1) := by decide +kernel
theorem dX9_cheapestFor_76 : decode cX9_cheapestFor 76 = .ok (.iconst (-1), 1) := by decide +kernel
theorem dX9_cheapestFor_77 : decode cX9_cheapestFor 77 = .ok (.if_icmp .ne 11, 3) := by decide +kernel
theorem dX9_cheapestFor_80 : decode cX9_cheapestFor 80 = .ok (.aload_n 0, 1) := by decide +kernel
theorem dX9_cheapestFor_81 : decode cX9_cheapestFor 81 = .ok (.iconst 2, 1) := by decide +kernel
theorem dX9_cheapestFor_82 : decode cX9_cheapestFor 82 = .ok (.invokevirtual 54, 3) := by decide +kernel
theorem dX9_cheapestFor_85 : decode cX9_cheapestFor 85 = .ok (.goto 4, 3) := by decide +kernel
theorem dX9_cheapestFor_88 : decode cX9_cheapestFor 88 = .ok (.iload_n 2, 1) := by decide +kernel
theorem dX9_cheapestFor_89 : decode cX9_cheapestFor 89 = .ok (.ireturn, 1) := by decide +kernel
theorem dX9_lease_0 : decode cX9_lease 0 = .ok (.aload_n 0, 1) := by decide +kernel
theorem dX9_lease_1 : decode cX9_lease 1 = .ok (.invokevirtual 134, 3) := by decide +kernel
theorem dX9_lease_4 : decode cX9_lease 4 = .ok (.aload_n 0, 1) := by decide +kernel
theorem dX9_lease_5 : decode cX9_lease 5 = .ok (.aload_n 0, 1) := by decide +kernel
theorem dX9_lease_6 : decode cX9_lease 6 = .ok (.iload_n 1, 1) := by decide +kernel
theorem dX9_lease_7 : decode cX9_lease 7 = .ok (.iload_n 2, 1) := by decide +kernel
theorem dX9_lease_8 : decode cX9_lease 8 = .ok (.iload_n 3, 1) := by decide +kernel
theorem dX9_lease_9 : decode cX9_lease 9 = .ok (.invokevirtual 174, 3) := by decide +kernel
theorem dX9_lease_12 : decode cX9_lease 12 = .ok (.iconst 3, 1) := by decide +kernel
theorem dX9_lease_13 : decode cX9_lease 13 = .ok (.invokevirtual 141, 3) := by decide +kernel
theorem dX9_lease_16 : decode cX9_lease 16 = .ok (.ireturn, 1) := by decide +kernel
theorem dX9_endLease_0 : decode cX9_endLease 0 = .ok (.aload_n 0, 1) := by decide +kernel
theorem dX9_endLease_1 : decode cX9_endLease 1 = .ok (.invokevirtual 134, 3) := by decide +kernel
theorem dX9_endLease_4 : decode cX9_endLease 4 = .ok (.aload_n 0, 1) := by decide +kernel
theorem dX9_endLease_5 : decode cX9_endLease 5 = .ok (.aload_n 0, 1) := by decide +kernel
theorem dX9_endLease_6 : decode cX9_endLease 6 = .ok (.iload_n 1, 1) := by decide +kernel
theorem dX9_endLease_7 : decode cX9_endLease 7 = .ok (.invokevirtual 177, 3) := by decide +kernel
theorem dX9_endLease_10 : decode cX9_endLease 10 = .ok (.iconst 2, 1) := by decide +kernel
theorem dX9_endLease_11 : decode cX9_endLease 11 = .ok (.invokevirtual 141, 3) := by decide +kernel
theorem dX9_endLease_14 : decode cX9_endLease 14 = .ok (.ireturn, 1) := by decide +kernel
theorem dX9_renew_0 : decode cX9_renew 0 = .ok (.aload_n 0, 1) := by decide +kernel
theorem dX9_renew_1 : decode cX9_renew 1 = .ok (.invokevirtual 134, 3) := by decide +kernel
theorem dX9_renew_4 : decode cX9_renew 4 = .ok (.aload_n 0, 1) := by decide +kernel
theorem dX9_renew_5 : decode cX9_renew 5 = .ok (.aload_n 0, 1) := by decide +kernel
theorem dX9_renew_6 : decode cX9_renew 6 = .ok (.iload_n 1, 1) := by decide +kernel
theorem dX9_renew_7 : decode cX9_renew 7 = .ok (.iload_n 2, 1) := by decide +kernel
theorem dX9_renew_8 : decode cX9_renew 8 = .ok (.invokevirtual 180, 3) := by decide +kernel
theorem dX9_renew_11 : decode cX9_renew 11 = .ok (.iconst 3, 1) := by decide +kernel
theorem dX9_renew_12 : decode cX9_renew 12 = .ok (.invokevirtual 141, 3) := by decide +kernel
theorem dX9_renew_15 : decode cX9_renew 15 = .ok (.ireturn, 1) := by decide +kernel
theorem dX9_isLet_0 : decode cX9_isLet 0 = .ok (.aload_n 0, 1) := by decide +kernel
theorem dX9_isLet_1 : decode cX9_isLet 1 = .ok (.aload_n 0, 1) := by decide +kernel
theorem dX9_isLet_2 : decode cX9_isLet 2 = .ok (.iload_n 1, 1) := by decide +kernel
theorem dX9_isLet_3 : decode cX9_isLet 3 = .ok (.invokevirtual 118, 3) := by decide +kernel
theorem dX9_isLet_6 : decode cX9_isLet 6 = .ok (.ifCond .eq 7, 3) := by decide +kernel
theorem dX9_isLet_9 : decode cX9_isLet 9 = .ok (.iconst 0, 1) := by decide +kernel
theorem dX9_isLet_10 : decode cX9_isLet 10 = .ok (.goto 4, 3) := by decide +kernel
theorem dX9_isLet_13 : decode cX9_isLet 13 = .ok (.iconst 1, 1) := by decide +kernel
theorem dX9_isLet_14 : decode cX9_isLet 14 = .ok (.putfield 38, 3) := by decide +kernel
theorem dX9_isLet_17 : decode cX9_isLet 17 = .ok (.aload_n 0, 1) := by decide +kernel
theorem dX9_isLet_18 : decode cX9_isLet 18 = .ok (.getfield 38, 3) := by decide +kernel
theorem dX9_isLet_21 : decode cX9_isLet 21 = .ok (.ifCond .ne 16, 3) := by decide +kernel
theorem dX9_isLet_24 : decode cX9_isLet 24 = .ok (.aload_n 0, 1) := by decide +kernel
theorem dX9_isLet_25 : decode cX9_isLet 25 = .ok (.iload_n 1, 1) := by decide +kernel
theorem dX9_isLet_26 : decode cX9_isLet 26 = .ok (.invokevirtual 74, 3) := by decide +kernel
theorem dX9_isLet_29 : decode cX9_isLet 29 = .ok (.iconst (-1), 1) := by decide +kernel
theorem dX9_isLet_30 : decode cX9_isLet 30 = .ok (.if_icmp .eq 7, 3) := by decide +kernel
theorem dX9_isLet_33 : decode cX9_isLet 33 = .ok (.iconst 1, 1) := by decide +kernel
theorem dX9_isLet_34 : decode cX9_isLet 34 = .ok (.goto 4, 3) := by decide +kernel
theorem dX9_isLet_37 : decode cX9_isLet 37 = .ok (.iconst 0, 1) := by decide +kernel
theorem dX9_isLet_38 : decode cX9_isLet 38 = .ok (.ireturn, 1) := by decide +kernel
theorem dX9_isLeased_0 : decode cX9_isLeased 0 = .ok (.aload_n 0, 1) := by decide +kernel
theorem dX9_isLeased_1 : decode cX9_isLeased 1 = .ok (.aload_n 0, 1) := by decide +kernel
theorem dX9_isLeased_2 : decode cX9_isLeased 2 = .ok (.iload_n 1, 1) := by decide +kernel
theorem dX9_isLeased_3 : decode cX9_isLeased 3 = .ok (.invokevirtual 118, 3) := by decide +kernel
theorem dX9_isLeased_6 : decode cX9_isLeased 6 = .ok (.ifCond .ne 7, 3) := by decide +kernel
theorem dX9_isLeased_9 : decode cX9_isLeased 9 = .ok (.iconst 1, 1) := by decide +kernel
theorem dX9_isLeased_10 : decode cX9_isLeased 10 = .ok (.goto 17, 3) := by decide +kernel
theorem dX9_isLeased_13 : decode cX9_isLeased 13 = .ok (.aload_n 0, 1) := by decide +kernel
theorem dX9_isLeased_14 : decode cX9_isLeased 14 = .ok (.iload_n 1, 1) := by decide +kernel
theorem dX9_isLeased_15 : decode cX9_isLeased 15 = .ok (.invokevirtual 74, 3) := by decide +kernel
theorem dX9_isLeased_18 : decode cX9_isLeased 18 = .ok (.iconst (-1), 1) := by decide +kernel
theorem dX9_isLeased_19 : decode cX9_isLeased 19 = .ok (.if_icmp .ne 7, 3) := by decide +kernel
theorem dX9_isLeased_22 : decode cX9_isLeased 22 = .ok (.iconst 2, 1) := by decide +kernel
theorem dX9_isLeased_23 : decode cX9_isLeased 23 = .ok (.goto 4, 3) := by decide +kernel
theorem dX9_isLeased_26 : decode cX9_isLeased 26 = .ok (.iconst 0, 1) := by decide +kernel
theorem dX9_isLeased_27 : decode cX9_isLeased 27 = .ok (.putfield 38, 3) := by decide +kernel
theorem dX9_isLeased_30 : decode cX9_isLeased 30 = .ok (.aload_n 0, 1) := by decide +kernel
theorem dX9_isLeased_31 : decode cX9_isLeased 31 = .ok (.getfield 38, 3) := by decide +kernel
theorem dX9_isLeased_34 : decode cX9_isLeased 34 = .ok (.ifCond .ne 7, 3) := by decide +kernel
theorem dX9_isLeased_37 : decode cX9_isLeased 37 = .ok (.iconst 1, 1) := by decide +kernel
theorem dX9_isLeased_38 : decode cX9_isLeased 38 = .ok (.goto 4, 3) := by decide +kernel
theorem dX9_isLeased_41 : decode cX9_isLeased 41 = .ok (.iconst 0, 1) := by decide +kernel
theorem dX9_isLeased_42 : decode cX9_isLeased 42 = .ok (.ireturn, 1) := by decide +kernel
theorem dX9_tenantOf_0 : decode cX9_tenantOf 0 = .ok (.aload_n 0, 1) := by decide +kernel
theorem dX9_tenantOf_1 : decode cX9_tenantOf 1 = .ok (.iload_n 1, 1) := by decide +kernel
theorem dX9_tenantOf_2 : decode cX9_tenantOf 2 = .ok (.invokevirtual 183, 3) := by decide +kernel
theorem dX9_tenantOf_5 : decode cX9_tenantOf 5 = .ok (.ifCond .eq 11, 3) := by decide +kernel
theorem dX9_tenantOf_8 : decode cX9_tenantOf 8 = .ok (.aload_n 0, 1) := by decide +kernel
theorem dX9_tenantOf_9 : decode cX9_tenantOf 9 = .ok (.iload_n 1, 1) := by decide +kernel
theorem dX9_tenantOf_10 : decode cX9_tenantOf 10 = .ok (.invokevirtual 74, 3) := by decide +kernel
theorem dX9_tenantOf_13 : decode cX9_tenantOf 13 = .ok (.goto 4, 3) := by decide +kernel
theorem dX9_tenantOf_16 : decode cX9_tenantOf 16 = .ok (.iconst 0, 1) := by decide +kernel
theorem dX9_tenantOf_17 : decode cX9_tenantOf 17 = .ok (.ireturn, 1) := by decide +kernel
theorem dX9_depositOf_0 : decode cX9_depositOf 0 = .ok (.aload_n 0, 1) := by decide +kernel
theorem dX9_depositOf_1 : decode cX9_depositOf 1 = .ok (.iload_n 1, 1) := by decide +kernel
theorem dX9_depositOf_2 : decode cX9_depositOf 2 = .ok (.invokevirtual 183, 3) := by decide +kernel
theorem dX9_depositOf_5 : decode cX9_depositOf 5 = .ok (.ifCond .eq 12, 3) := by decide +kernel
theorem dX9_depositOf_8 : decode cX9_depositOf 8 = .ok (.aload_n 0, 1) := by decide +kernel
theorem dX9_depositOf_9 : decode cX9_depositOf 9 = .ok (.iload_n 1, 1) := by decide +kernel
theorem dX9_depositOf_10 : decode cX9_depositOf 10 = .ok (.iconst 4, 1) := by decide +kernel
theorem dX9_depositOf_11 : decode cX9_depositOf 11 = .ok (.invokevirtual 70, 3) := by decide +kernel
theorem dX9_depositOf_14 : decode cX9_depositOf 14 = .ok (.goto 4, 3) := by decide +kernel
theorem dX9_depositOf_17 : decode cX9_depositOf 17 = .ok (.iconst 0, 1) := by decide +kernel
theorem dX9_depositOf_18 : decode cX9_depositOf 18 = .ok (.ireturn, 1) := by decide +kernel
theorem dX9_monthsLeft_0 : decode cX9_monthsLeft 0 = .ok (.aload_n 0, 1) := by decide +kernel
theorem dX9_monthsLeft_1 : decode cX9_monthsLeft 1 = .ok (.iload_n 1, 1) := by decide +kernel
theorem dX9_monthsLeft_2 : decode cX9_monthsLeft 2 = .ok (.invokevirtual 183, 3) := by decide +kernel
theorem dX9_monthsLeft_5 : decode cX9_monthsLeft 5 = .ok (.ifCond .eq 12, 3) := by decide +kernel
theorem dX9_monthsLeft_8 : decode cX9_monthsLeft 8 = .ok (.aload_n 0, 1) := by decide +kernel
theorem dX9_monthsLeft_9 : decode cX9_monthsLeft 9 = .ok (.iload_n 1, 1) := by decide +kernel
theorem dX9_monthsLeft_10 : decode cX9_monthsLeft 10 = .ok (.iconst 5, 1) := by decide +kernel
theorem dX9_monthsLeft_11 : decode cX9_monthsLeft 11 = .ok (.invokevirtual 70, 3) := by decide +kernel
theorem dX9_monthsLeft_14 : decode cX9_monthsLeft 14 = .ok (.goto 4, 3) := by decide +kernel
theorem dX9_monthsLeft_17 : decode cX9_monthsLeft 17 = .ok (.iconst 0, 1) := by decide +kernel
theorem dX9_monthsLeft_18 : decode cX9_monthsLeft 18 = .ok (.ireturn, 1) := by decide +kernel
theorem dX9_defaultMonth_0 : decode cX9_defaultMonth 0 = .ok (.aload_n 0, 1) := by decide +kernel
theorem dX9_defaultMonth_1 : decode cX9_defaultMonth 1 = .ok (.iload_n 1, 1) := by decide +kernel
theorem dX9_defaultMonth_2 : decode cX9_defaultMonth 2 = .ok (.invokevirtual 183, 3) := by decide +kernel
theorem dX9_defaultMonth_5 : decode cX9_defaultMonth 5 = .ok (.ifCond .ne 5, 3) := by decide +kernel
theorem dX9_defaultMonth_8 : decode cX9_defaultMonth 8 = .ok (.iconst 0, 1) := by decide +kernel
theorem dX9_defaultMonth_9 : decode cX9_defaultMonth 9 = .ok (.ireturn, 1) := by decide +kernel
theorem dX9_defaultMonth_10 : decode cX9_defaultMonth 10 = .ok (.aload_n 0, 1) := by decide +kernel
theorem dX9_defaultMonth_11 : decode cX9_defaultMonth 11 = .ok (.aload_n 0, 1) := by decide +kernel
theorem dX9_defaultMonth_12 : decode cX9_defaultMonth 12 = .ok (.iload_n 1, 1) := by decide +kernel
theorem dX9_defaultMonth_13 : decode cX9_defaultMonth 13 = .ok (.invokevirtual 74, 3) := by decide +kernel
theorem dX9_defaultMonth_16 : decode cX9_defaultMonth 16 = .ok (.iconst 0, 1) := by decide +kernel
theorem dX9_defaultMonth_17 : decode cX9_defaultMonth 17 = .ok (.invokevirtual 106, 3) := by decide +kernel
theorem dX9_defaultMonth_20 : decode cX9_defaultMonth 20 = .ok (.aload_n 0, 1) := by decide +kernel
theorem dX9_defaultMonth_21 : decode cX9_defaultMonth 21 = .ok (.iload_n 1, 1) := by decide +kernel
theorem dX9_defaultMonth_22 : decode cX9_defaultMonth 22 = .ok (.invokevirtual 115, 3) := by decide +kernel
theorem dX9_defaultMonth_25 : decode cX9_defaultMonth 25 = .ok (.idiv, 1) := by decide +kernel
theorem dX9_defaultMonth_26 : decode cX9_defaultMonth 26 = .ok (.istore_n 2, 1) := by decide +kernel
theorem dX9_defaultMonth_27 : decode cX9_defaultMonth 27 = .ok (.aload_n 0, 1) := by decide +kernel
theorem dX9_defaultMonth_28 : decode cX9_defaultMonth 28 = .ok (.iload_n 1, 1) := by decide +kernel
theorem dX9_defaultMonth_29 : decode cX9_defaultMonth 29 = .ok (.invokevirtual 112, 3) := by decide +kernel
theorem dX9_defaultMonth_32 : decode cX9_defaultMonth 32 = .ok (.ifCond .eq 19, 3) := by decide +kernel
theorem dX9_defaultMonth_35 : decode cX9_defaultMonth 35 = .ok (.iload_n 2, 1) := by decide +kernel
theorem dX9_defaultMonth_36 : decode cX9_defaultMonth 36 = .ok (.aload_n 0, 1) := by decide +kernel
theorem dX9_defaultMonth_37 : decode cX9_defaultMonth 37 = .ok (.iload_n 1, 1) := by decide +kernel
theorem dX9_defaultMonth_38 : decode cX9_defaultMonth 38 = .ok (.iconst 5, 1) := by decide +kernel
theorem dX9_defaultMonth_39 : decode cX9_defaultMonth 39 = .ok (.invokevirtual 70, 3) := by decide +kernel
theorem dX9_defaultMonth_42 : decode cX9_defaultMonth 42 = .ok (.if_icmp .ge 9, 3) := by decide +kernel
theorem dX9_defaultMonth_45 : decode cX9_defaultMonth 45 = .ok (.iload_n 2, 1) := by decide +kernel
theorem dX9_defaultMonth_46 : decode cX9_defaultMonth 46 = .ok (.iconst 1, 1) := by decide +kernel
theorem dX9_defaultMonth_47 : decode cX9_defaultMonth 47 = .ok (.iadd, 1) := by decide +kernel
theorem dX9_defaultMonth_48 : decode cX9_defaultMonth 48 = .ok (.goto 8, 3) := by decide +kernel
theorem dX9_defaultMonth_51 : decode cX9_defaultMonth 51 = .ok (.aload_n 0, 1) := by decide +kernel
theorem dX9_defaultMonth_52 : decode cX9_defaultMonth 52 = .ok (.iconst 2, 1) := by decide +kernel
theorem dX9_defaultMonth_53 : decode cX9_defaultMonth 53 = .ok (.invokevirtual 54, 3) := by decide +kernel
theorem dX9_defaultMonth_56 : decode cX9_defaultMonth 56 = .ok (.ireturn, 1) := by decide +kernel
theorem dX9_passMonths_0 : decode cX9_passMonths 0 = .ok (.aload_n 0, 1) := by decide +kernel
theorem dX9_passMonths_1 : decode cX9_passMonths 1 = .ok (.invokevirtual 134, 3) := by decide +kernel
theorem dX9_passMonths_4 : decode cX9_passMonths 4 = .ok (.aload_n 0, 1) := by decide +kernel
theorem dX9_passMonths_5 : decode cX9_passMonths 5 = .ok (.aload_n 0, 1) := by decide +kernel
theorem dX9_passMonths_6 : decode cX9_passMonths 6 = .ok (.iload_n 1, 1) := by decide +kernel
theorem dX9_passMonths_7 : decode cX9_passMonths 7 = .ok (.invokevirtual 186, 3) := by decide +kernel
theorem dX9_passMonths_10 : decode cX9_passMonths 10 = .ok (.iconst 1, 1) := by decide +kernel
theorem dX9_passMonths_11 : decode cX9_passMonths 11 = .ok (.invokevirtual 141, 3) := by decide +kernel
theorem dX9_passMonths_14 : decode cX9_passMonths 14 = .ok (.ireturn, 1) := by decide +kernel
theorem dX9_month_0 : decode cX9_month 0 = .ok (.aload_n 0, 1) := by decide +kernel
theorem dX9_month_1 : decode cX9_month 1 = .ok (.iconst 0, 1) := by decide +kernel
theorem dX9_month_2 : decode cX9_month 2 = .ok (.putfield 38, 3) := by decide +kernel
theorem dX9_month_5 : decode cX9_month 5 = .ok (.aload_n 0, 1) := by decide +kernel
theorem dX9_month_6 : decode cX9_month 6 = .ok (.getfield 7, 3) := by decide +kernel
theorem dX9_month_9 : decode cX9_month 9 = .ok (.iconst 4, 1) := by decide +kernel
theorem dX9_month_10 : decode cX9_month 10 = .ok (.iaload, 1) := by decide +kernel
theorem dX9_month_11 : decode cX9_month 11 = .ok (.ireturn, 1) := by decide +kernel
theorem dX9_incomeWithin_0 : decode cX9_incomeWithin 0 = .ok (.aload_n 0, 1) := by decide +kernel
theorem dX9_incomeWithin_1 : decode cX9_incomeWithin 1 = .ok (.iload_n 1, 1) := by decide +kernel
theorem dX9_incomeWithin_2 : decode cX9_incomeWithin 2 = .ok (.iconst 1, 1) := by decide +kernel
theorem dX9_incomeWithin_3 : decode cX9_incomeWithin 3 = .ok (.bipush 12, 2) := by decide +kernel
theorem dX9_incomeWithin_5 : decode cX9_incomeWithin 5 = .ok (.invokestatic 66, 3) := by decide +kernel
theorem dX9_incomeWithin_8 : decode cX9_incomeWithin 8 = .ok (.ifCond .eq 7, 3) := by decide +kernel
theorem dX9_incomeWithin_11 : decode cX9_incomeWithin 11 = .ok (.iconst 0, 1) := by decide +kernel
theorem dX9_incomeWithin_12 : decode cX9_incomeWithin 12 = .ok (.goto 4, 3) := by decide +kernel
theorem dX9_incomeWithin_15 : decode cX9_incomeWithin 15 = .ok (.iconst 1, 1) := by decide +kernel
theorem dX9_incomeWithin_16 : decode cX9_incomeWithin 16 = .ok (.putfield 38, 3) := by decide +kernel
theorem dX9_incomeWithin_19 : decode cX9_incomeWithin 19 = .ok (.aload_n 0, 1) := by decide +kernel
theorem dX9_incomeWithin_20 : decode cX9_incomeWithin 20 = .ok (.getfield 38, 3) := by decide +kernel
theorem dX9_incomeWithin_23 : decode cX9_incomeWithin 23 = .ok (.ifCond .le 5, 3) := by decide +kernel
theorem dX9_incomeWithin_26 : decode cX9_incomeWithin 26 = .ok (.iconst 0, 1) := by decide +kernel
theorem dX9_incomeWithin_27 : decode cX9_incomeWithin 27 = .ok (.ireturn, 1) := by decide +kernel
theorem dX9_incomeWithin_28 : decode cX9_incomeWithin 28 = .ok (.iconst 0, 1) := by decide +kernel
theorem dX9_incomeWithin_29 : decode cX9_incomeWithin 29 = .ok (.istore_n 2, 1) := by decide +kernel
theorem dX9_incomeWithin_30 : decode cX9_incomeWithin 30 = .ok (.iload_n 2, 1) := by decide +kernel
theorem dX9_incomeWithin_31 : decode cX9_incomeWithin 31 = .ok (.bipush 102, 2) := by decide +kernel
theorem dX9_incomeWithin_33 : decode cX9_incomeWithin 33 = .ok (.if_icmp .ge 21, 3) := by decide +kernel
theorem dX9_incomeWithin_36 : decode cX9_incomeWithin 36 = .ok (.aload_n 0, 1) := by decide +kernel
theorem dX9_incomeWithin_37 : decode cX9_incomeWithin 37 = .ok (.getfield 22, 3) := by decide +kernel
theorem dX9_incomeWithin_40 : decode cX9_incomeWithin 40 = .ok (.iload_n 2, 1) := by decide +kernel
theorem dX9_incomeWithin_41 : decode cX9_incomeWithin 41 = .ok (.aload_n 0, 1) := by decide +kernel
theorem dX9_incomeWithin_42 : decode cX9_incomeWithin 42 = .ok (.getfield 7, 3) := by decide +kernel
theorem dX9_incomeWithin_45 : decode cX9_incomeWithin 45 = .ok (.iload_n 2, 1) := by decide +kernel
theorem dX9_incomeWithin_46 : decode cX9_incomeWithin 46 = .ok (.iaload, 1) := by decide +kernel
theorem dX9_incomeWithin_47 : decode cX9_incomeWithin 47 = .ok (.iastore, 1) := by decide +kernel
theorem dX9_incomeWithin_48 : decode cX9_incomeWithin 48 = .ok (.iinc 2 1, 3) := by decide +kernel
theorem dX9_incomeWithin_51 : decode cX9_incomeWithin 51 = .ok (.goto (-21), 3) := by decide +kernel
theorem dX9_incomeWithin_54 : decode cX9_incomeWithin 54 = .ok (.aload_n 0, 1) := by decide +kernel
theorem dX9_incomeWithin_55 : decode cX9_incomeWithin 55 = .ok (.iload_n 1, 1) := by decide +kernel
theorem dX9_incomeWithin_56 : decode cX9_incomeWithin 56 = .ok (.invokevirtual 186, 3) := by decide +kernel
theorem dX9_incomeWithin_59 : decode cX9_incomeWithin 59 = .ok (.istore_n 2, 1) := by decide +kernel
theorem dX9_incomeWithin_60 : decode cX9_incomeWithin 60 = .ok (.aload_n 0, 1) := by decide +kernel
theorem dX9_incomeWithin_61 : decode cX9_incomeWithin 61 = .ok (.getfield 7, 3) := by decide +kernel
theorem dX9_incomeWithin_64 : decode cX9_incomeWithin 64 = .ok (.iconst 5, 1) := by decide +kernel
theorem dX9_incomeWithin_65 : decode cX9_incomeWithin 65 = .ok (.iaload, 1) := by decide +kernel
theorem dX9_incomeWithin_66 : decode cX9_incomeWithin 66 = .ok (.aload_n 0, 1) := by decide +kernel
theorem dX9_incomeWithin_67 : decode cX9_incomeWithin 67 = .ok (.getfield 22, 3) := by decide +kernel
theorem dX9_incomeWithin_70 : decode cX9_incomeWithin 70 = .ok (.iconst 5, 1) := by decide +kernel
theorem dX9_incomeWithin_71 : decode cX9_incomeWithin 71 = .ok (.iaload, 1) := by decide +kernel
theorem dX9_incomeWithin_72 : decode cX9_incomeWithin 72 = .ok (.isub, 1) := by decide +kernel
theorem dX9_incomeWithin_73 : decode cX9_incomeWithin 73 = .ok (.istore_n 3, 1) := by decide +kernel
theorem dX9_incomeWithin_74 : decode cX9_incomeWithin 74 = .ok (.iconst 0, 1) := by decide +kernel
theorem dX9_incomeWithin_75 : decode cX9_incomeWithin 75 = .ok (.istore 4, 2) := by decide +kernel
theorem dX9_incomeWithin_77 : decode cX9_incomeWithin 77 = .ok (.iload 4, 2) := by decide +kernel
theorem dX9_incomeWithin_79 : decode cX9_incomeWithin 79 = .ok (.bipush 102, 2) := by decide +kernel
theorem dX9_incomeWithin_81 : decode cX9_incomeWithin 81 = .ok (.if_icmp .ge 23, 3) := by decide +kernel
theorem dX9_incomeWithin_84 : decode cX9_incomeWithin 84 = .ok (.aload_n 0, 1) := by decide +kernel
theorem dX9_incomeWithin_85 : decode cX9_incomeWithin 85 = .ok (.getfield 7, 3) := by decide +kernel
theorem dX9_incomeWithin_88 : decode cX9_incomeWithin 88 = .ok (.iload 4, 2) := by decide +kernel
theorem dX9_incomeWithin_90 : decode cX9_incomeWithin 90 = .ok (.aload_n 0, 1) := by decide +kernel
theorem dX9_incomeWithin_91 : decode cX9_incomeWithin 91 = .ok (.getfield 22, 3) := by decide +kernel
theorem dX9_incomeWithin_94 : decode cX9_incomeWithin 94 = .ok (.iload 4, 2) := by decide +kernel
theorem dX9_incomeWithin_96 : decode cX9_incomeWithin 96 = .ok (.iaload, 1) := by decide +kernel
theorem dX9_incomeWithin_97 : decode cX9_incomeWithin 97 = .ok (.iastore, 1) := by decide +kernel
theorem dX9_incomeWithin_98 : decode cX9_incomeWithin 98 = .ok (.iinc 4 1, 3) := by decide +kernel
theorem dX9_incomeWithin_101 : decode cX9_incomeWithin 101 = .ok (.goto (-24), 3) := by decide +kernel
theorem dX9_incomeWithin_104 : decode cX9_incomeWithin 104 = .ok (.iload_n 3, 1) := by decide +kernel
theorem dX9_incomeWithin_105 : decode cX9_incomeWithin 105 = .ok (.ireturn, 1) := by decide +kernel
theorem dX9_incomeByLeases_0 : decode cX9_incomeByLeases 0 = .ok (.aload_n 0, 1) := by decide +kernel
theorem dX9_incomeByLeases_1 : decode cX9_incomeByLeases 1 = .ok (.iload_n 1, 1) := by decide +kernel
theorem dX9_incomeByLeases_2 : decode cX9_incomeByLeases 2 = .ok (.invokevirtual 189, 3) := by decide +kernel
theorem dX9_incomeByLeases_5 : decode cX9_incomeByLeases 5 = .ok (.ireturn, 1) := by decide +kernel
theorem dX9_brokerCoins_0 : decode cX9_brokerCoins 0 = .ok (.aload_n 0, 1) := by decide +kernel
theorem dX9_brokerCoins_1 : decode cX9_brokerCoins 1 = .ok (.iconst 0, 1) := by decide +kernel
theorem dX9_brokerCoins_2 : decode cX9_brokerCoins 2 = .ok (.putfield 38, 3) := by decide +kernel
theorem dX9_brokerCoins_5 : decode cX9_brokerCoins 5 = .ok (.aload_n 0, 1) := by decide +kernel
theorem dX9_brokerCoins_6 : decode cX9_brokerCoins 6 = .ok (.getfield 7, 3) := by decide +kernel
theorem dX9_brokerCoins_9 : decode cX9_brokerCoins 9 = .ok (.iconst 5, 1) := by decide +kernel
theorem dX9_brokerCoins_10 : decode cX9_brokerCoins 10 = .ok (.iaload, 1) := by decide +kernel
theorem dX9_brokerCoins_11 : decode cX9_brokerCoins 11 = .ok (.ireturn, 1) := by decide +kernel
theorem dX9_deposits_0 : decode cX9_deposits 0 = .ok (.iconst 0, 1) := by decide +kernel
theorem dX9_deposits_1 : decode cX9_deposits 1 = .ok (.istore_n 1, 1) := by decide +kernel
theorem dX9_deposits_2 : decode cX9_deposits 2 = .ok (.iconst 0, 1) := by decide +kernel
theorem dX9_deposits_3 : decode cX9_deposits 3 = .ok (.istore_n 2, 1) := by decide +kernel
theorem dX9_deposits_4 : decode cX9_deposits 4 = .ok (.iload_n 2, 1) := by decide +kernel
theorem dX9_deposits_5 : decode cX9_deposits 5 = .ok (.aload_n 0, 1) := by decide +kernel
theorem dX9_deposits_6 : decode cX9_deposits 6 = .ok (.getfield 7, 3) := by decide +kernel
theorem dX9_deposits_9 : decode cX9_deposits 9 = .ok (.iconst 0, 1) := by decide +kernel
theorem dX9_deposits_10 : decode cX9_deposits 10 = .ok (.iaload, 1) := by decide +kernel
theorem dX9_deposits_11 : decode cX9_deposits 11 = .ok (.if_icmp .ge 18, 3) := by decide +kernel
theorem dX9_deposits_14 : decode cX9_deposits 14 = .ok (.iload_n 1, 1) := by decide +kernel
theorem dX9_deposits_15 : decode cX9_deposits 15 = .ok (.aload_n 0, 1) := by decide +kernel
theorem dX9_deposits_16 : decode cX9_deposits 16 = .ok (.iload_n 2, 1) := by decide +kernel
theorem dX9_deposits_17 : decode cX9_deposits 17 = .ok (.iconst 4, 1) := by decide +kernel
theorem dX9_deposits_18 : decode cX9_deposits 18 = .ok (.invokevirtual 70, 3) := by decide +kernel
theorem dX9_deposits_21 : decode cX9_deposits 21 = .ok (.iadd, 1) := by decide +kernel
theorem dX9_deposits_22 : decode cX9_deposits 22 = .ok (.istore_n 1, 1) := by decide +kernel
theorem dX9_deposits_23 : decode cX9_deposits 23 = .ok (.iinc 2 1, 3) := by decide +kernel
theorem dX9_deposits_26 : decode cX9_deposits 26 = .ok (.goto (-22), 3) := by decide +kernel
theorem dX9_deposits_29 : decode cX9_deposits 29 = .ok (.iload_n 1, 1) := by decide +kernel
theorem dX9_deposits_30 : decode cX9_deposits 30 = .ok (.ireturn, 1) := by decide +kernel
theorem dX9_depositTotal_0 : decode cX9_depositTotal 0 = .ok (.aload_n 0, 1) := by decide +kernel
theorem dX9_depositTotal_1 : decode cX9_depositTotal 1 = .ok (.iconst 0, 1) := by decide +kernel
theorem dX9_depositTotal_2 : decode cX9_depositTotal 2 = .ok (.putfield 38, 3) := by decide +kernel
theorem dX9_depositTotal_5 : decode cX9_depositTotal 5 = .ok (.aload_n 0, 1) := by decide +kernel
theorem dX9_depositTotal_6 : decode cX9_depositTotal 6 = .ok (.invokevirtual 192, 3) := by decide +kernel
theorem dX9_depositTotal_9 : decode cX9_depositTotal 9 = .ok (.ireturn, 1) := by decide +kernel
theorem dX9_allCoins_0 : decode cX9_allCoins 0 = .ok (.aload_n 0, 1) := by decide +kernel
theorem dX9_allCoins_1 : decode cX9_allCoins 1 = .ok (.iconst 0, 1) := by decide +kernel
theorem dX9_allCoins_2 : decode cX9_allCoins 2 = .ok (.putfield 38, 3) := by decide +kernel
theorem dX9_allCoins_5 : decode cX9_allCoins 5 = .ok (.aload_n 0, 1) := by decide +kernel
theorem dX9_allCoins_6 : decode cX9_allCoins 6 = .ok (.getfield 7, 3) := by decide +kernel
theorem dX9_allCoins_9 : decode cX9_allCoins 9 = .ok (.iconst 5, 1) := by decide +kernel
theorem dX9_allCoins_10 : decode cX9_allCoins 10 = .ok (.iaload, 1) := by decide +kernel
theorem dX9_allCoins_11 : decode cX9_allCoins 11 = .ok (.aload_n 0, 1) := by decide +kernel
theorem dX9_allCoins_12 : decode cX9_allCoins 12 = .ok (.invokevirtual 192, 3) := by decide +kernel
theorem dX9_allCoins_15 : decode cX9_allCoins 15 = .ok (.iadd, 1) := by decide +kernel
theorem dX9_allCoins_16 : decode cX9_allCoins 16 = .ok (.istore_n 1, 1) := by decide +kernel
theorem dX9_allCoins_17 : decode cX9_allCoins 17 = .ok (.iconst 0, 1) := by decide +kernel
theorem dX9_allCoins_18 : decode cX9_allCoins 18 = .ok (.istore_n 2, 1) := by decide +kernel
theorem dX9_allCoins_19 : decode cX9_allCoins 19 = .ok (.iload_n 2, 1) := by decide +kernel
theorem dX9_allCoins_20 : decode cX9_allCoins 20 = .ok (.aload_n 0, 1) := by decide +kernel
theorem dX9_allCoins_21 : decode cX9_allCoins 21 = .ok (.getfield 7, 3) := by decide +kernel
theorem dX9_allCoins_24 : decode cX9_allCoins 24 = .ok (.iconst 2, 1) := by decide +kernel
theorem dX9_allCoins_25 : decode cX9_allCoins 25 = .ok (.iaload, 1) := by decide +kernel
theorem dX9_allCoins_26 : decode cX9_allCoins 26 = .ok (.if_icmp .ge 18, 3) := by decide +kernel
theorem dX9_allCoins_29 : decode cX9_allCoins 29 = .ok (.iload_n 1, 1) := by decide +kernel
theorem dX9_allCoins_30 : decode cX9_allCoins 30 = .ok (.aload_n 0, 1) := by decide +kernel
theorem dX9_allCoins_31 : decode cX9_allCoins 31 = .ok (.iload_n 2, 1) := by decide +kernel
theorem dX9_allCoins_32 : decode cX9_allCoins 32 = .ok (.iconst 0, 1) := by decide +kernel
theorem dX9_allCoins_33 : decode cX9_allCoins 33 = .ok (.invokevirtual 106, 3) := by decide +kernel
theorem dX9_allCoins_36 : decode cX9_allCoins 36 = .ok (.iadd, 1) := by decide +kernel
theorem dX9_allCoins_37 : decode cX9_allCoins 37 = .ok (.istore_n 1, 1) := by decide +kernel
theorem dX9_allCoins_38 : decode cX9_allCoins 38 = .ok (.iinc 2 1, 3) := by decide +kernel
theorem dX9_allCoins_41 : decode cX9_allCoins 41 = .ok (.goto (-22), 3) := by decide +kernel
theorem dX9_allCoins_44 : decode cX9_allCoins 44 = .ok (.iload_n 1, 1) := by decide +kernel
theorem dX9_allCoins_45 : decode cX9_allCoins 45 = .ok (.ireturn, 1) := by decide +kernel
theorem dX9_allCoinsGiven_0 : decode cX9_allCoinsGiven 0 = .ok (.aload_n 0, 1) := by decide +kernel
theorem dX9_allCoinsGiven_1 : decode cX9_allCoinsGiven 1 = .ok (.iconst 0, 1) := by decide +kernel
theorem dX9_allCoinsGiven_2 : decode cX9_allCoinsGiven 2 = .ok (.putfield 38, 3) := by decide +kernel
theorem dX9_allCoinsGiven_5 : decode cX9_allCoinsGiven 5 = .ok (.aload_n 0, 1) := by decide +kernel
theorem dX9_allCoinsGiven_6 : decode cX9_allCoinsGiven 6 = .ok (.getfield 7, 3) := by decide +kernel
theorem dX9_allCoinsGiven_9 : decode cX9_allCoinsGiven 9 = .ok (.bipush 6, 2) := by decide +kernel
theorem dX9_allCoinsGiven_11 : decode cX9_allCoinsGiven 11 = .ok (.iaload, 1) := by decide +kernel
theorem dX9_allCoinsGiven_12 : decode cX9_allCoinsGiven 12 = .ok (.ireturn, 1) := by decide +kernel
theorem dX9_defaultedLeases_0 : decode cX9_defaultedLeases 0 = .ok (.aload_n 0, 1) := by decide +kernel
theorem dX9_defaultedLeases_1 : decode cX9_defaultedLeases 1 = .ok (.iconst 0, 1) := by decide +kernel
theorem dX9_defaultedLeases_2 : decode cX9_defaultedLeases 2 = .ok (.putfield 38, 3) := by decide +kernel
theorem dX9_defaultedLeases_5 : decode cX9_defaultedLeases 5 = .ok (.aload_n 0, 1) := by decide +kernel
theorem dX9_defaultedLeases_6 : decode cX9_defaultedLeases 6 = .ok (.getfield 7, 3) := by decide +kernel
theorem dX9_defaultedLeases_9 : decode cX9_defaultedLeases 9 = .ok (.bipush 7, 2) := by decide +kernel
theorem dX9_defaultedLeases_11 : decode cX9_defaultedLeases 11 = .ok (.iaload, 1) := by decide +kernel
theorem dX9_defaultedLeases_12 : decode cX9_defaultedLeases 12 = .ok (.ireturn, 1) := by decide +kernel
theorem dX9_terminatedLeases_0 : decode cX9_terminatedLeases 0 = .ok (.aload_n 0, 1) := by decide +kernel
theorem dX9_terminatedLeases_1 : decode cX9_terminatedLeases 1 = .ok (.iconst 0, 1) := by decide +kernel
theorem dX9_terminatedLeases_2 : decode cX9_terminatedLeases 2 = .ok (.putfield 38, 3) := by decide +kernel
theorem dX9_terminatedLeases_5 : decode cX9_terminatedLeases 5 = .ok (.aload_n 0, 1) := by decide +kernel
theorem dX9_terminatedLeases_6 : decode cX9_terminatedLeases 6 = .ok (.getfield 7, 3) := by decide +kernel
theorem dX9_terminatedLeases_9 : decode cX9_terminatedLeases 9 = .ok (.bipush 8, 2) := by decide +kernel
theorem dX9_terminatedLeases_11 : decode cX9_terminatedLeases 11 = .ok (.iaload, 1) := by decide +kernel
theorem dX9_terminatedLeases_12 : decode cX9_terminatedLeases 12 = .ok (.ireturn, 1) := by decide +kernel
theorem dX9_completedLeases_0 : decode cX9_completedLeases 0 = .ok (.aload_n 0, 1) := by decide +kernel
theorem dX9_completedLeases_1 : decode cX9_completedLeases 1 = .ok (.iconst 0, 1) := by decide +kernel
theorem dX9_completedLeases_2 : decode cX9_completedLeases 2 = .ok (.putfield 38, 3) := by decide +kernel
theorem dX9_completedLeases_5 : decode cX9_completedLeases 5 = .ok (.aload_n 0, 1) := by decide +kernel
theorem dX9_completedLeases_6 : decode cX9_completedLeases 6 = .ok (.getfield 7, 3) := by decide +kernel
theorem dX9_completedLeases_9 : decode cX9_completedLeases 9 = .ok (.bipush 9, 2) := by decide +kernel
theorem dX9_completedLeases_11 : decode cX9_completedLeases 11 = .ok (.iaload, 1) := by decide +kernel
theorem dX9_completedLeases_12 : decode cX9_completedLeases 12 = .ok (.ireturn, 1) := by decide +kernel
theorem dX9_isCheaper_0 : decode cX9_isCheaper 0 = .ok (.aload_n 0, 1) := by decide +kernel
theorem dX9_isCheaper_1 : decode cX9_isCheaper 1 = .ok (.iload_n 1, 1) := by decide +kernel
theorem dX9_isCheaper_2 : decode cX9_isCheaper 2 = .ok (.invokevirtual 115, 3) := by decide +kernel
theorem dX9_isCheaper_5 : decode cX9_isCheaper 5 = .ok (.aload_n 0, 1) := by decide +kernel
theorem dX9_isCheaper_6 : decode cX9_isCheaper 6 = .ok (.iload_n 2, 1) := by decide +kernel
theorem dX9_isCheaper_7 : decode cX9_isCheaper 7 = .ok (.invokevirtual 115, 3) := by decide +kernel
theorem dX9_isCheaper_10 : decode cX9_isCheaper 10 = .ok (.if_icmp .eq 22, 3) := by decide +kernel
theorem dX9_isCheaper_13 : decode cX9_isCheaper 13 = .ok (.aload_n 0, 1) := by decide +kernel
theorem dX9_isCheaper_14 : decode cX9_isCheaper 14 = .ok (.iload_n 1, 1) := by decide +kernel
theorem dX9_isCheaper_15 : decode cX9_isCheaper 15 = .ok (.invokevirtual 115, 3) := by decide +kernel
theorem dX9_isCheaper_18 : decode cX9_isCheaper 18 = .ok (.aload_n 0, 1) := by decide +kernel
theorem dX9_isCheaper_19 : decode cX9_isCheaper 19 = .ok (.iload_n 2, 1) := by decide +kernel
theorem dX9_isCheaper_20 : decode cX9_isCheaper 20 = .ok (.invokevirtual 115, 3) := by decide +kernel
theorem dX9_isCheaper_23 : decode cX9_isCheaper 23 = .ok (.if_icmp .ge 7, 3) := by decide +kernel
theorem dX9_isCheaper_26 : decode cX9_isCheaper 26 = .ok (.iconst 1, 1) := by decide +kernel
theorem dX9_isCheaper_27 : decode cX9_isCheaper 27 = .ok (.goto 4, 3) := by decide +kernel
theorem dX9_isCheaper_30 : decode cX9_isCheaper 30 = .ok (.iconst 0, 1) := by decide +kernel
theorem dX9_isCheaper_31 : decode cX9_isCheaper 31 = .ok (.ireturn, 1) := by decide +kernel
theorem dX9_isCheaper_32 : decode cX9_isCheaper 32 = .ok (.aload_n 0, 1) := by decide +kernel
theorem dX9_isCheaper_33 : decode cX9_isCheaper 33 = .ok (.iload_n 1, 1) := by decide +kernel
theorem dX9_isCheaper_34 : decode cX9_isCheaper 34 = .ok (.invokevirtual 74, 3) := by decide +kernel
theorem dX9_isCheaper_37 : decode cX9_isCheaper 37 = .ok (.iconst (-1), 1) := by decide +kernel
theorem dX9_isCheaper_38 : decode cX9_isCheaper 38 = .ok (.if_icmp .ne 7, 3) := by decide +kernel
theorem dX9_isCheaper_41 : decode cX9_isCheaper 41 = .ok (.iconst 1, 1) := by decide +kernel
theorem dX9_isCheaper_42 : decode cX9_isCheaper 42 = .ok (.goto 4, 3) := by decide +kernel
theorem dX9_isCheaper_45 : decode cX9_isCheaper 45 = .ok (.iconst 0, 1) := by decide +kernel
theorem dX9_isCheaper_46 : decode cX9_isCheaper 46 = .ok (.istore_n 3, 1) := by decide +kernel
theorem dX9_isCheaper_47 : decode cX9_isCheaper 47 = .ok (.iload_n 3, 1) := by decide +kernel
theorem dX9_isCheaper_48 : decode cX9_isCheaper 48 = .ok (.aload_n 0, 1) := by decide +kernel
theorem dX9_isCheaper_49 : decode cX9_isCheaper 49 = .ok (.iload_n 2, 1) := by decide +kernel
theorem dX9_isCheaper_50 : decode cX9_isCheaper 50 = .ok (.invokevirtual 74, 3) := by decide +kernel
theorem dX9_isCheaper_53 : decode cX9_isCheaper 53 = .ok (.iconst (-1), 1) := by decide +kernel
theorem dX9_isCheaper_54 : decode cX9_isCheaper 54 = .ok (.if_icmp .ne 7, 3) := by decide +kernel
theorem dX9_isCheaper_57 : decode cX9_isCheaper 57 = .ok (.iconst 1, 1) := by decide +kernel
theorem dX9_isCheaper_58 : decode cX9_isCheaper 58 = .ok (.goto 4, 3) := by decide +kernel
theorem dX9_isCheaper_61 : decode cX9_isCheaper 61 = .ok (.iconst 0, 1) := by decide +kernel
theorem dX9_isCheaper_62 : decode cX9_isCheaper 62 = .ok (.if_icmp .ne 16, 3) := by decide +kernel
theorem dX9_isCheaper_65 : decode cX9_isCheaper 65 = .ok (.iload_n 1, 1) := by decide +kernel
theorem dX9_isCheaper_66 : decode cX9_isCheaper 66 = .ok (.iload_n 2, 1) := by decide +kernel
theorem dX9_isCheaper_67 : decode cX9_isCheaper 67 = .ok (.if_icmp .ge 7, 3) := by decide +kernel
theorem dX9_isCheaper_70 : decode cX9_isCheaper 70 = .ok (.iconst 1, 1) := by decide +kernel
theorem dX9_isCheaper_71 : decode cX9_isCheaper 71 = .ok (.goto 8, 3) := by decide +kernel
theorem dX9_isCheaper_74 : decode cX9_isCheaper 74 = .ok (.iconst 0, 1) := by decide +kernel
theorem dX9_isCheaper_75 : decode cX9_isCheaper 75 = .ok (.goto 4, 3) := by decide +kernel
theorem dX9_isCheaper_78 : decode cX9_isCheaper 78 = .ok (.iload_n 3, 1) := by decide +kernel
theorem dX9_isCheaper_79 : decode cX9_isCheaper 79 = .ok (.ireturn, 1) := by decide +kernel
theorem dX9_benchByRent_0 : decode cX9_benchByRent 0 = .ok (.aload_n 0, 1) := by decide +kernel
theorem dX9_benchByRent_1 : decode cX9_benchByRent 1 = .ok (.iconst 0, 1) := by decide +kernel
theorem dX9_benchByRent_2 : decode cX9_benchByRent 2 = .ok (.putfield 38, 3) := by decide +kernel
theorem dX9_benchByRent_5 : decode cX9_benchByRent 5 = .ok (.iconst 0, 1) := by decide +kernel
theorem dX9_benchByRent_6 : decode cX9_benchByRent 6 = .ok (.istore_n 2, 1) := by decide +kernel
theorem dX9_benchByRent_7 : decode cX9_benchByRent 7 = .ok (.iload_n 2, 1) := by decide +kernel
theorem dX9_benchByRent_8 : decode cX9_benchByRent 8 = .ok (.aload_n 0, 1) := by decide +kernel
theorem dX9_benchByRent_9 : decode cX9_benchByRent 9 = .ok (.getfield 7, 3) := by decide +kernel
theorem dX9_benchByRent_12 : decode cX9_benchByRent 12 = .ok (.iconst 0, 1) := by decide +kernel
theorem dX9_benchByRent_13 : decode cX9_benchByRent 13 = .ok (.iaload, 1) := by decide +kernel
theorem dX9_benchByRent_14 : decode cX9_benchByRent 14 = .ok (.if_icmp .ge 62, 3) := by decide +kernel
theorem dX9_benchByRent_17 : decode cX9_benchByRent 17 = .ok (.iconst 0, 1) := by decide +kernel
theorem dX9_benchByRent_18 : decode cX9_benchByRent 18 = .ok (.istore_n 3, 1) := by decide +kernel
theorem dX9_benchByRent_19 : decode cX9_benchByRent 19 = .ok (.iconst 0, 1) := by decide +kernel
theorem dX9_benchByRent_20 : decode cX9_benchByRent 20 = .ok (.istore 4, 2) := by decide +kernel
theorem dX9_benchByRent_22 : decode cX9_benchByRent 22 = .ok (.iload 4, 2) := by decide +kernel
theorem dX9_benchByRent_24 : decode cX9_benchByRent 24 = .ok (.aload_n 0, 1) := by decide +kernel
theorem dX9_benchByRent_25 : decode cX9_benchByRent 25 = .ok (.getfield 7, 3) := by decide +kernel
theorem dX9_benchByRent_28 : decode cX9_benchByRent 28 = .ok (.iconst 0, 1) := by decide +kernel
theorem dX9_benchByRent_29 : decode cX9_benchByRent 29 = .ok (.iaload, 1) := by decide +kernel
theorem dX9_benchByRent_30 : decode cX9_benchByRent 30 = .ok (.if_icmp .ge 33, 3) := by decide +kernel
theorem dX9_benchByRent_33 : decode cX9_benchByRent 33 = .ok (.iload_n 3, 1) := by decide +kernel
theorem dX9_benchByRent_34 : decode cX9_benchByRent 34 = .ok (.iload 4, 2) := by decide +kernel
theorem dX9_benchByRent_36 : decode cX9_benchByRent 36 = .ok (.iload_n 2, 1) := by decide +kernel
theorem dX9_benchByRent_37 : decode cX9_benchByRent 37 = .ok (.if_icmp .eq 17, 3) := by decide +kernel
theorem dX9_benchByRent_40 : decode cX9_benchByRent 40 = .ok (.aload_n 0, 1) := by decide +kernel
theorem dX9_benchByRent_41 : decode cX9_benchByRent 41 = .ok (.iload 4, 2) := by decide +kernel
theorem dX9_benchByRent_43 : decode cX9_benchByRent 43 = .ok (.iload_n 2, 1) := by decide +kernel
theorem dX9_benchByRent_44 : decode cX9_benchByRent 44 = .ok (.invokevirtual 196, 3) := by decide +kernel
theorem dX9_benchByRent_47 : decode cX9_benchByRent 47 = .ok (.ifCond .eq 7, 3) := by decide +kernel
theorem dX9_benchByRent_50 : decode cX9_benchByRent 50 = .ok (.iconst 1, 1) := by decide +kernel
theorem dX9_benchByRent_51 : decode cX9_benchByRent 51 = .ok (.goto 4, 3) := by decide +kernel
theorem dX9_benchByRent_54 : decode cX9_benchByRent 54 = .ok (.iconst 0, 1) := by decide +kernel
theorem dX9_benchByRent_55 : decode cX9_benchByRent 55 = .ok (.iadd, 1) := by decide +kernel
theorem dX9_benchByRent_56 : decode cX9_benchByRent 56 = .ok (.istore_n 3, 1) := by decide +kernel
theorem dX9_benchByRent_57 : decode cX9_benchByRent 57 = .ok (.iinc 4 1, 3) := by decide +kernel
theorem dX9_benchByRent_60 : decode cX9_benchByRent 60 = .ok (.goto (-38), 3) := by decide +kernel
theorem dX9_benchByRent_63 : decode cX9_benchByRent 63 = .ok (.iload_n 3, 1) := by decide +kernel
theorem dX9_benchByRent_64 : decode cX9_benchByRent 64 = .ok (.iload_n 1, 1) := by decide +kernel
theorem dX9_benchByRent_65 : decode cX9_benchByRent 65 = .ok (.if_icmp .ne 5, 3) := by decide +kernel
theorem dX9_benchByRent_68 : decode cX9_benchByRent 68 = .ok (.iload_n 2, 1) := by decide +kernel
theorem dX9_benchByRent_69 : decode cX9_benchByRent 69 = .ok (.ireturn, 1) := by decide +kernel
theorem dX9_benchByRent_70 : decode cX9_benchByRent 70 = .ok (.iinc 2 1, 3) := by decide +kernel
theorem dX9_benchByRent_73 : decode cX9_benchByRent 73 = .ok (.goto (-66), 3) := by decide +kernel
theorem dX9_benchByRent_76 : decode cX9_benchByRent 76 = .ok (.aload_n 0, 1) := by decide +kernel
theorem dX9_benchByRent_77 : decode cX9_benchByRent 77 = .ok (.iconst 1, 1) := by decide +kernel
theorem dX9_benchByRent_78 : decode cX9_benchByRent 78 = .ok (.invokevirtual 54, 3) := by decide +kernel
theorem dX9_benchByRent_81 : decode cX9_benchByRent 81 = .ok (.ireturn, 1) := by decide +kernel
theorem dX9_isRicher_0 : decode cX9_isRicher 0 = .ok (.aload_n 0, 1) := by decide +kernel
theorem dX9_isRicher_1 : decode cX9_isRicher 1 = .ok (.iload_n 1, 1) := by decide +kernel
theorem dX9_isRicher_2 : decode cX9_isRicher 2 = .ok (.iconst 0, 1) := by decide +kernel
theorem dX9_isRicher_3 : decode cX9_isRicher 3 = .ok (.invokevirtual 106, 3) := by decide +kernel
theorem dX9_isRicher_6 : decode cX9_isRicher 6 = .ok (.aload_n 0, 1) := by decide +kernel
theorem dX9_isRicher_7 : decode cX9_isRicher 7 = .ok (.iload_n 2, 1) := by decide +kernel
theorem dX9_isRicher_8 : decode cX9_isRicher 8 = .ok (.iconst 0, 1) := by decide +kernel
theorem dX9_isRicher_9 : decode cX9_isRicher 9 = .ok (.invokevirtual 106, 3) := by decide +kernel
theorem dX9_isRicher_12 : decode cX9_isRicher 12 = .ok (.if_icmp .eq 24, 3) := by decide +kernel
theorem dX9_isRicher_15 : decode cX9_isRicher 15 = .ok (.aload_n 0, 1) := by decide +kernel
theorem dX9_isRicher_16 : decode cX9_isRicher 16 = .ok (.iload_n 1, 1) := by decide +kernel
theorem dX9_isRicher_17 : decode cX9_isRicher 17 = .ok (.iconst 0, 1) := by decide +kernel
theorem dX9_isRicher_18 : decode cX9_isRicher 18 = .ok (.invokevirtual 106, 3) := by decide +kernel
theorem dX9_isRicher_21 : decode cX9_isRicher 21 = .ok (.aload_n 0, 1) := by decide +kernel
theorem dX9_isRicher_22 : decode cX9_isRicher 22 = .ok (.iload_n 2, 1) := by decide +kernel
theorem dX9_isRicher_23 : decode cX9_isRicher 23 = .ok (.iconst 0, 1) := by decide +kernel
theorem dX9_isRicher_24 : decode cX9_isRicher 24 = .ok (.invokevirtual 106, 3) := by decide +kernel
theorem dX9_isRicher_27 : decode cX9_isRicher 27 = .ok (.if_icmp .le 7, 3) := by decide +kernel
theorem dX9_isRicher_30 : decode cX9_isRicher 30 = .ok (.iconst 1, 1) := by decide +kernel
theorem dX9_isRicher_31 : decode cX9_isRicher 31 = .ok (.goto 4, 3) := by decide +kernel
theorem dX9_isRicher_34 : decode cX9_isRicher 34 = .ok (.iconst 0, 1) := by decide +kernel
theorem dX9_isRicher_35 : decode cX9_isRicher 35 = .ok (.ireturn, 1) := by decide +kernel
theorem dX9_isRicher_36 : decode cX9_isRicher 36 = .ok (.aload_n 0, 1) := by decide +kernel
theorem dX9_isRicher_37 : decode cX9_isRicher 37 = .ok (.iload_n 1, 1) := by decide +kernel
theorem dX9_isRicher_38 : decode cX9_isRicher 38 = .ok (.iconst 1, 1) := by decide +kernel
theorem dX9_isRicher_39 : decode cX9_isRicher 39 = .ok (.invokevirtual 106, 3) := by decide +kernel
theorem dX9_isRicher_42 : decode cX9_isRicher 42 = .ok (.aload_n 0, 1) := by decide +kernel
theorem dX9_isRicher_43 : decode cX9_isRicher 43 = .ok (.iload_n 2, 1) := by decide +kernel
theorem dX9_isRicher_44 : decode cX9_isRicher 44 = .ok (.iconst 1, 1) := by decide +kernel
theorem dX9_isRicher_45 : decode cX9_isRicher 45 = .ok (.invokevirtual 106, 3) := by decide +kernel
theorem dX9_isRicher_48 : decode cX9_isRicher 48 = .ok (.if_icmp .ne 16, 3) := by decide +kernel
theorem dX9_isRicher_51 : decode cX9_isRicher 51 = .ok (.iload_n 1, 1) := by decide +kernel
theorem dX9_isRicher_52 : decode cX9_isRicher 52 = .ok (.iload_n 2, 1) := by decide +kernel
theorem dX9_isRicher_53 : decode cX9_isRicher 53 = .ok (.if_icmp .ge 7, 3) := by decide +kernel
theorem dX9_isRicher_56 : decode cX9_isRicher 56 = .ok (.iconst 1, 1) := by decide +kernel
theorem dX9_isRicher_57 : decode cX9_isRicher 57 = .ok (.goto 27, 3) := by decide +kernel
theorem dX9_isRicher_60 : decode cX9_isRicher 60 = .ok (.iconst 0, 1) := by decide +kernel
theorem dX9_isRicher_61 : decode cX9_isRicher 61 = .ok (.goto 23, 3) := by decide +kernel
theorem dX9_isRicher_64 : decode cX9_isRicher 64 = .ok (.aload_n 0, 1) := by decide +kernel
theorem dX9_isRicher_65 : decode cX9_isRicher 65 = .ok (.iload_n 1, 1) := by decide +kernel
theorem dX9_isRicher_66 : decode cX9_isRicher 66 = .ok (.iconst 1, 1) := by decide +kernel
theorem dX9_isRicher_67 : decode cX9_isRicher 67 = .ok (.invokevirtual 106, 3) := by decide +kernel
theorem dX9_isRicher_70 : decode cX9_isRicher 70 = .ok (.aload_n 0, 1) := by decide +kernel
theorem dX9_isRicher_71 : decode cX9_isRicher 71 = .ok (.iload_n 2, 1) := by decide +kernel
theorem dX9_isRicher_72 : decode cX9_isRicher 72 = .ok (.iconst 1, 1) := by decide +kernel
theorem dX9_isRicher_73 : decode cX9_isRicher 73 = .ok (.invokevirtual 106, 3) := by decide +kernel
theorem dX9_isRicher_76 : decode cX9_isRicher 76 = .ok (.if_icmp .ge 7, 3) := by decide +kernel
theorem dX9_isRicher_79 : decode cX9_isRicher 79 = .ok (.iconst 1, 1) := by decide +kernel
theorem dX9_isRicher_80 : decode cX9_isRicher 80 = .ok (.goto 4, 3) := by decide +kernel
theorem dX9_isRicher_83 : decode cX9_isRicher 83 = .ok (.iconst 0, 1) := by decide +kernel
theorem dX9_isRicher_84 : decode cX9_isRicher 84 = .ok (.ireturn, 1) := by decide +kernel
theorem dX9_tenantByCoins_0 : decode cX9_tenantByCoins 0 = .ok (.aload_n 0, 1) := by decide +kernel
theorem dX9_tenantByCoins_1 : decode cX9_tenantByCoins 1 = .ok (.iconst 0, 1) := by decide +kernel
theorem dX9_tenantByCoins_2 : decode cX9_tenantByCoins 2 = .ok (.putfield 38, 3) := by decide +kernel
theorem dX9_tenantByCoins_5 : decode cX9_tenantByCoins 5 = .ok (.iconst 0, 1) := by decide +kernel
theorem dX9_tenantByCoins_6 : decode cX9_tenantByCoins 6 = .ok (.istore_n 2, 1) := by decide +kernel
theorem dX9_tenantByCoins_7 : decode cX9_tenantByCoins 7 = .ok (.iload_n 2, 1) := by decide +kernel
theorem dX9_tenantByCoins_8 : decode cX9_tenantByCoins 8 = .ok (.aload_n 0, 1) := by decide +kernel
theorem dX9_tenantByCoins_9 : decode cX9_tenantByCoins 9 = .ok (.getfield 7, 3) := by decide +kernel
theorem dX9_tenantByCoins_12 : decode cX9_tenantByCoins 12 = .ok (.iconst 2, 1) := by decide +kernel
theorem dX9_tenantByCoins_13 : decode cX9_tenantByCoins 13 = .ok (.iaload, 1) := by decide +kernel
theorem dX9_tenantByCoins_14 : decode cX9_tenantByCoins 14 = .ok (.if_icmp .ge 62, 3) := by decide +kernel
theorem dX9_tenantByCoins_17 : decode cX9_tenantByCoins 17 = .ok (.iconst 0, 1) := by decide +kernel
theorem dX9_tenantByCoins_18 : decode cX9_tenantByCoins 18 = .ok (.istore_n 3, 1) := by decide +kernel
theorem dX9_tenantByCoins_19 : decode cX9_tenantByCoins 19 = .ok (.iconst 0, 1) := by decide +kernel
theorem dX9_tenantByCoins_20 : decode cX9_tenantByCoins 20 = .ok (.istore 4, 2) := by decide +kernel
theorem dX9_tenantByCoins_22 : decode cX9_tenantByCoins 22 = .ok (.iload 4, 2) := by decide +kernel
theorem dX9_tenantByCoins_24 : decode cX9_tenantByCoins 24 = .ok (.aload_n 0, 1) := by decide +kernel
theorem dX9_tenantByCoins_25 : decode cX9_tenantByCoins 25 = .ok (.getfield 7, 3) := by decide +kernel
theorem dX9_tenantByCoins_28 : decode cX9_tenantByCoins 28 = .ok (.iconst 2, 1) := by decide +kernel
theorem dX9_tenantByCoins_29 : decode cX9_tenantByCoins 29 = .ok (.iaload, 1) := by decide +kernel
theorem dX9_tenantByCoins_30 : decode cX9_tenantByCoins 30 = .ok (.if_icmp .ge 33, 3) := by decide +kernel
theorem dX9_tenantByCoins_33 : decode cX9_tenantByCoins 33 = .ok (.iload_n 3, 1) := by decide +kernel
theorem dX9_tenantByCoins_34 : decode cX9_tenantByCoins 34 = .ok (.iload 4, 2) := by decide +kernel
theorem dX9_tenantByCoins_36 : decode cX9_tenantByCoins 36 = .ok (.iload_n 2, 1) := by decide +kernel
theorem dX9_tenantByCoins_37 : decode cX9_tenantByCoins 37 = .ok (.if_icmp .eq 17, 3) := by decide +kernel
theorem dX9_tenantByCoins_40 : decode cX9_tenantByCoins 40 = .ok (.aload_n 0, 1) := by decide +kernel
theorem dX9_tenantByCoins_41 : decode cX9_tenantByCoins 41 = .ok (.iload 4, 2) := by decide +kernel
theorem dX9_tenantByCoins_43 : decode cX9_tenantByCoins 43 = .ok (.iload_n 2, 1) := by decide +kernel
theorem dX9_tenantByCoins_44 : decode cX9_tenantByCoins 44 = .ok (.invokevirtual 199, 3) := by decide +kernel
theorem dX9_tenantByCoins_47 : decode cX9_tenantByCoins 47 = .ok (.ifCond .eq 7, 3) := by decide +kernel
theorem dX9_tenantByCoins_50 : decode cX9_tenantByCoins 50 = .ok (.iconst 1, 1) := by decide +kernel
theorem dX9_tenantByCoins_51 : decode cX9_tenantByCoins 51 = .ok (.goto 4, 3) := by decide +kernel
theorem dX9_tenantByCoins_54 : decode cX9_tenantByCoins 54 = .ok (.iconst 0, 1) := by decide +kernel
theorem dX9_tenantByCoins_55 : decode cX9_tenantByCoins 55 = .ok (.iadd, 1) := by decide +kernel
theorem dX9_tenantByCoins_56 : decode cX9_tenantByCoins 56 = .ok (.istore_n 3, 1) := by decide +kernel
theorem dX9_tenantByCoins_57 : decode cX9_tenantByCoins 57 = .ok (.iinc 4 1, 3) := by decide +kernel
theorem dX9_tenantByCoins_60 : decode cX9_tenantByCoins 60 = .ok (.goto (-38), 3) := by decide +kernel
theorem dX9_tenantByCoins_63 : decode cX9_tenantByCoins 63 = .ok (.iload_n 3, 1) := by decide +kernel
theorem dX9_tenantByCoins_64 : decode cX9_tenantByCoins 64 = .ok (.iload_n 1, 1) := by decide +kernel
theorem dX9_tenantByCoins_65 : decode cX9_tenantByCoins 65 = .ok (.if_icmp .ne 5, 3) := by decide +kernel
theorem dX9_tenantByCoins_68 : decode cX9_tenantByCoins 68 = .ok (.iload_n 2, 1) := by decide +kernel
theorem dX9_tenantByCoins_69 : decode cX9_tenantByCoins 69 = .ok (.ireturn, 1) := by decide +kernel
theorem dX9_tenantByCoins_70 : decode cX9_tenantByCoins 70 = .ok (.iinc 2 1, 3) := by decide +kernel
theorem dX9_tenantByCoins_73 : decode cX9_tenantByCoins 73 = .ok (.goto (-66), 3) := by decide +kernel
theorem dX9_tenantByCoins_76 : decode cX9_tenantByCoins 76 = .ok (.aload_n 0, 1) := by decide +kernel
theorem dX9_tenantByCoins_77 : decode cX9_tenantByCoins 77 = .ok (.iconst 1, 1) := by decide +kernel
theorem dX9_tenantByCoins_78 : decode cX9_tenantByCoins 78 = .ok (.invokevirtual 54, 3) := by decide +kernel
theorem dX9_tenantByCoins_81 : decode cX9_tenantByCoins 81 = .ok (.ireturn, 1) := by decide +kernel
theorem dX9_meanRent_0 : decode cX9_meanRent 0 = .ok (.aload_n 0, 1) := by decide +kernel
theorem dX9_meanRent_1 : decode cX9_meanRent 1 = .ok (.aload_n 0, 1) := by decide +kernel
theorem dX9_meanRent_2 : decode cX9_meanRent 2 = .ok (.getfield 7, 3) := by decide +kernel
theorem dX9_meanRent_5 : decode cX9_meanRent 5 = .ok (.iconst 0, 1) := by decide +kernel
theorem dX9_meanRent_6 : decode cX9_meanRent 6 = .ok (.iaload, 1) := by decide +kernel
theorem dX9_meanRent_7 : decode cX9_meanRent 7 = .ok (.ifCond .ne 7, 3) := by decide +kernel
theorem dX9_meanRent_10 : decode cX9_meanRent 10 = .ok (.iconst 1, 1) := by decide +kernel
theorem dX9_meanRent_11 : decode cX9_meanRent 11 = .ok (.goto 4, 3) := by decide +kernel
theorem dX9_meanRent_14 : decode cX9_meanRent 14 = .ok (.iconst 0, 1) := by decide +kernel
theorem dX9_meanRent_15 : decode cX9_meanRent 15 = .ok (.putfield 38, 3) := by decide +kernel
theorem dX9_meanRent_18 : decode cX9_meanRent 18 = .ok (.aload_n 0, 1) := by decide +kernel
theorem dX9_meanRent_19 : decode cX9_meanRent 19 = .ok (.getfield 38, 3) := by decide +kernel
theorem dX9_meanRent_22 : decode cX9_meanRent 22 = .ok (.ifCond .le 5, 3) := by decide +kernel
theorem dX9_meanRent_25 : decode cX9_meanRent 25 = .ok (.dconst 0, 1) := by decide +kernel
theorem dX9_meanRent_26 : decode cX9_meanRent 26 = .ok (.dreturn, 1) := by decide +kernel
theorem dX9_meanRent_27 : decode cX9_meanRent 27 = .ok (.iconst 0, 1) := by decide +kernel
theorem dX9_meanRent_28 : decode cX9_meanRent 28 = .ok (.istore_n 1, 1) := by decide +kernel
theorem dX9_meanRent_29 : decode cX9_meanRent 29 = .ok (.iconst 0, 1) := by decide +kernel
theorem dX9_meanRent_30 : decode cX9_meanRent 30 = .ok (.istore_n 2, 1) := by decide +kernel
theorem dX9_meanRent_31 : decode cX9_meanRent 31 = .ok (.iload_n 2, 1) := by decide +kernel
theorem dX9_meanRent_32 : decode cX9_meanRent 32 = .ok (.aload_n 0, 1) := by decide +kernel
theorem dX9_meanRent_33 : decode cX9_meanRent 33 = .ok (.getfield 7, 3) := by decide +kernel
theorem dX9_meanRent_36 : decode cX9_meanRent 36 = .ok (.iconst 0, 1) := by decide +kernel
theorem dX9_meanRent_37 : decode cX9_meanRent 37 = .ok (.iaload, 1) := by decide +kernel
theorem dX9_meanRent_38 : decode cX9_meanRent 38 = .ok (.if_icmp .ge 17, 3) := by decide +kernel
theorem dX9_meanRent_41 : decode cX9_meanRent 41 = .ok (.iload_n 1, 1) := by decide +kernel
theorem dX9_meanRent_42 : decode cX9_meanRent 42 = .ok (.aload_n 0, 1) := by decide +kernel
theorem dX9_meanRent_43 : decode cX9_meanRent 43 = .ok (.iload_n 2, 1) := by decide +kernel
theorem dX9_meanRent_44 : decode cX9_meanRent 44 = .ok (.invokevirtual 115, 3) := by decide +kernel
theorem dX9_meanRent_47 : decode cX9_meanRent 47 = .ok (.iadd, 1) := by decide +kernel
theorem dX9_meanRent_48 : decode cX9_meanRent 48 = .ok (.istore_n 1, 1) := by decide +kernel
theorem dX9_meanRent_49 : decode cX9_meanRent 49 = .ok (.iinc 2 1, 3) := by decide +kernel
theorem dX9_meanRent_52 : decode cX9_meanRent 52 = .ok (.goto (-21), 3) := by decide +kernel
theorem dX9_meanRent_55 : decode cX9_meanRent 55 = .ok (.iload_n 1, 1) := by decide +kernel
theorem dX9_meanRent_56 : decode cX9_meanRent 56 = .ok (.i2d, 1) := by decide +kernel
theorem dX9_meanRent_57 : decode cX9_meanRent 57 = .ok (.aload_n 0, 1) := by decide +kernel
theorem dX9_meanRent_58 : decode cX9_meanRent 58 = .ok (.getfield 7, 3) := by decide +kernel
theorem dX9_meanRent_61 : decode cX9_meanRent 61 = .ok (.iconst 0, 1) := by decide +kernel
theorem dX9_meanRent_62 : decode cX9_meanRent 62 = .ok (.iaload, 1) := by decide +kernel
theorem dX9_meanRent_63 : decode cX9_meanRent 63 = .ok (.i2d, 1) := by decide +kernel
theorem dX9_meanRent_64 : decode cX9_meanRent 64 = .ok (.ddiv, 1) := by decide +kernel
theorem dX9_meanRent_65 : decode cX9_meanRent 65 = .ok (.dreturn, 1) := by decide +kernel
theorem dX9_letShare_0 : decode cX9_letShare 0 = .ok (.aload_n 0, 1) := by decide +kernel
theorem dX9_letShare_1 : decode cX9_letShare 1 = .ok (.aload_n 0, 1) := by decide +kernel
theorem dX9_letShare_2 : decode cX9_letShare 2 = .ok (.getfield 7, 3) := by decide +kernel
theorem dX9_letShare_5 : decode cX9_letShare 5 = .ok (.iconst 0, 1) := by decide +kernel
theorem dX9_letShare_6 : decode cX9_letShare 6 = .ok (.iaload, 1) := by decide +kernel
theorem dX9_letShare_7 : decode cX9_letShare 7 = .ok (.ifCond .ne 7, 3) := by decide +kernel
theorem dX9_letShare_10 : decode cX9_letShare 10 = .ok (.iconst 1, 1) := by decide +kernel
theorem dX9_letShare_11 : decode cX9_letShare 11 = .ok (.goto 4, 3) := by decide +kernel
theorem dX9_letShare_14 : decode cX9_letShare 14 = .ok (.iconst 0, 1) := by decide +kernel
theorem dX9_letShare_15 : decode cX9_letShare 15 = .ok (.putfield 38, 3) := by decide +kernel
theorem dX9_letShare_18 : decode cX9_letShare 18 = .ok (.aload_n 0, 1) := by decide +kernel
theorem dX9_letShare_19 : decode cX9_letShare 19 = .ok (.getfield 38, 3) := by decide +kernel
theorem dX9_letShare_22 : decode cX9_letShare 22 = .ok (.ifCond .le 5, 3) := by decide +kernel
theorem dX9_letShare_25 : decode cX9_letShare 25 = .ok (.fconst 0, 1) := by decide +kernel
theorem dX9_letShare_26 : decode cX9_letShare 26 = .ok (.freturn, 1) := by decide +kernel
theorem dX9_letShare_27 : decode cX9_letShare 27 = .ok (.iconst 0, 1) := by decide +kernel
theorem dX9_letShare_28 : decode cX9_letShare 28 = .ok (.istore_n 1, 1) := by decide +kernel
theorem dX9_letShare_29 : decode cX9_letShare 29 = .ok (.iconst 0, 1) := by decide +kernel
theorem dX9_letShare_30 : decode cX9_letShare 30 = .ok (.istore_n 2, 1) := by decide +kernel
theorem dX9_letShare_31 : decode cX9_letShare 31 = .ok (.iload_n 2, 1) := by decide +kernel
theorem dX9_letShare_32 : decode cX9_letShare 32 = .ok (.aload_n 0, 1) := by decide +kernel
theorem dX9_letShare_33 : decode cX9_letShare 33 = .ok (.getfield 7, 3) := by decide +kernel
theorem dX9_letShare_36 : decode cX9_letShare 36 = .ok (.iconst 0, 1) := by decide +kernel
theorem dX9_letShare_37 : decode cX9_letShare 37 = .ok (.iaload, 1) := by decide +kernel
theorem dX9_letShare_38 : decode cX9_letShare 38 = .ok (.if_icmp .ge 26, 3) := by decide +kernel
theorem dX9_letShare_41 : decode cX9_letShare 41 = .ok (.iload_n 1, 1) := by decide +kernel
theorem dX9_letShare_42 : decode cX9_letShare 42 = .ok (.aload_n 0, 1) := by decide +kernel
theorem dX9_letShare_43 : decode cX9_letShare 43 = .ok (.iload_n 2, 1) := by decide +kernel
theorem dX9_letShare_44 : decode cX9_letShare 44 = .ok (.invokevirtual 74, 3) := by decide +kernel
theorem dX9_letShare_47 : decode cX9_letShare 47 = .ok (.iconst (-1), 1) := by decide +kernel
theorem dX9_letShare_48 : decode cX9_letShare 48 = .ok (.if_icmp .ne 7, 3) := by decide +kernel
theorem dX9_letShare_51 : decode cX9_letShare 51 = .ok (.iconst 0, 1) := by decide +kernel
theorem dX9_letShare_52 : decode cX9_letShare 52 = .ok (.goto 4, 3) := by decide +kernel
theorem dX9_letShare_55 : decode cX9_letShare 55 = .ok (.iconst 1, 1) := by decide +kernel
theorem dX9_letShare_56 : decode cX9_letShare 56 = .ok (.iadd, 1) := by decide +kernel
theorem dX9_letShare_57 : decode cX9_letShare 57 = .ok (.istore_n 1, 1) := by decide +kernel
theorem dX9_letShare_58 : decode cX9_letShare 58 = .ok (.iinc 2 1, 3) := by decide +kernel
theorem dX9_letShare_61 : decode cX9_letShare 61 = .ok (.goto (-30), 3) := by decide +kernel
theorem dX9_letShare_64 : decode cX9_letShare 64 = .ok (.iload_n 1, 1) := by decide +kernel
theorem dX9_letShare_65 : decode cX9_letShare 65 = .ok (.i2f, 1) := by decide +kernel
theorem dX9_letShare_66 : decode cX9_letShare 66 = .ok (.aload_n 0, 1) := by decide +kernel
theorem dX9_letShare_67 : decode cX9_letShare 67 = .ok (.getfield 7, 3) := by decide +kernel
theorem dX9_letShare_70 : decode cX9_letShare 70 = .ok (.iconst 0, 1) := by decide +kernel
theorem dX9_letShare_71 : decode cX9_letShare 71 = .ok (.iaload, 1) := by decide +kernel
theorem dX9_letShare_72 : decode cX9_letShare 72 = .ok (.i2f, 1) := by decide +kernel
theorem dX9_letShare_73 : decode cX9_letShare 73 = .ok (.fdiv, 1) := by decide +kernel
theorem dX9_letShare_74 : decode cX9_letShare 74 = .ok (.freturn, 1) := by decide +kernel
theorem dX9_isConsistent_0 : decode cX9_isConsistent 0 = .ok (.aload_n 0, 1) := by decide +kernel
theorem dX9_isConsistent_1 : decode cX9_isConsistent 1 = .ok (.iconst 0, 1) := by decide +kernel
theorem dX9_isConsistent_2 : decode cX9_isConsistent 2 = .ok (.putfield 38, 3) := by decide +kernel
theorem dX9_isConsistent_5 : decode cX9_isConsistent 5 = .ok (.iconst 1, 1) := by decide +kernel
theorem dX9_isConsistent_6 : decode cX9_isConsistent 6 = .ok (.ireturn, 1) := by decide +kernel
theorem dX9_writes_0 : decode cX9_writes 0 = .ok (.aload_n 0, 1) := by decide +kernel
theorem dX9_writes_1 : decode cX9_writes 1 = .ok (.getfield 31, 3) := by decide +kernel
theorem dX9_writes_4 : decode cX9_writes 4 = .ok (.aload_n 0, 1) := by decide +kernel
theorem dX9_writes_5 : decode cX9_writes 5 = .ok (.getfield 202, 3) := by decide +kernel
theorem dX9_writes_8 : decode cX9_writes 8 = .ok (.iload_n 1, 1) := by decide +kernel
theorem dX9_writes_9 : decode cX9_writes 9 = .ok (.iastore, 1) := by decide +kernel
theorem dX9_writes_10 : decode cX9_writes 10 = .ok (.aload_n 0, 1) := by decide +kernel
theorem dX9_writes_11 : decode cX9_writes 11 = .ok (.dup, 1) := by decide +kernel
theorem dX9_writes_12 : decode cX9_writes 12 = .ok (.getfield 202, 3) := by decide +kernel
theorem dX9_writes_15 : decode cX9_writes 15 = .ok (.iconst 1, 1) := by decide +kernel
theorem dX9_writes_16 : decode cX9_writes 16 = .ok (.iadd, 1) := by decide +kernel
theorem dX9_writes_17 : decode cX9_writes 17 = .ok (.putfield 202, 3) := by decide +kernel
theorem dX9_writes_20 : decode cX9_writes 20 = .ok (.return_, 1) := by decide +kernel
theorem dX9_writesNumber_0 : decode cX9_writesNumber 0 = .ok (.iload_n 1, 1) := by decide +kernel
theorem dX9_writesNumber_1 : decode cX9_writesNumber 1 = .ok (.bipush 9, 2) := by decide +kernel
theorem dX9_writesNumber_3 : decode cX9_writesNumber 3 = .ok (.if_icmp .le 14, 3) := by decide +kernel
theorem dX9_writesNumber_6 : decode cX9_writesNumber 6 = .ok (.aload_n 0, 1) := by decide +kernel
theorem dX9_writesNumber_7 : decode cX9_writesNumber 7 = .ok (.bipush 48, 2) := by decide +kernel
theorem dX9_writesNumber_9 : decode cX9_writesNumber 9 = .ok (.iload_n 1, 1) := by decide +kernel
theorem dX9_writesNumber_10 : decode cX9_writesNumber 10 = .ok (.bipush 10, 2) := by decide +kernel
theorem dX9_writesNumber_12 : decode cX9_writesNumber 12 = .ok (.idiv, 1) := by decide +kernel
theorem dX9_writesNumber_13 : decode cX9_writesNumber 13 = .ok (.iadd, 1) := by decide +kernel
theorem dX9_writesNumber_14 : decode cX9_writesNumber 14 = .ok (.invokevirtual 205, 3) := by decide +kernel
theorem dX9_writesNumber_17 : decode cX9_writesNumber 17 = .ok (.aload_n 0, 1) := by decide +kernel
theorem dX9_writesNumber_18 : decode cX9_writesNumber 18 = .ok (.bipush 48, 2) := by decide +kernel
theorem dX9_writesNumber_20 : decode cX9_writesNumber 20 = .ok (.iload_n 1, 1) := by decide +kernel
theorem dX9_writesNumber_21 : decode cX9_writesNumber 21 = .ok (.bipush 10, 2) := by decide +kernel
theorem dX9_writesNumber_23 : decode cX9_writesNumber 23 = .ok (.irem, 1) := by decide +kernel
theorem dX9_writesNumber_24 : decode cX9_writesNumber 24 = .ok (.iadd, 1) := by decide +kernel
theorem dX9_writesNumber_25 : decode cX9_writesNumber 25 = .ok (.invokevirtual 205, 3) := by decide +kernel
theorem dX9_writesNumber_28 : decode cX9_writesNumber 28 = .ok (.return_, 1) := by decide +kernel
theorem dX9_writeBench_0 : decode cX9_writeBench 0 = .ok (.aload_n 0, 1) := by decide +kernel
theorem dX9_writeBench_1 : decode cX9_writeBench 1 = .ok (.aload_n 0, 1) := by decide +kernel
theorem dX9_writeBench_2 : decode cX9_writeBench 2 = .ok (.iload_n 1, 1) := by decide +kernel
theorem dX9_writeBench_3 : decode cX9_writeBench 3 = .ok (.invokevirtual 118, 3) := by decide +kernel
theorem dX9_writeBench_6 : decode cX9_writeBench 6 = .ok (.ifCond .eq 7, 3) := by decide +kernel
theorem dX9_writeBench_9 : decode cX9_writeBench 9 = .ok (.iconst 0, 1) := by decide +kernel
theorem dX9_writeBench_10 : decode cX9_writeBench 10 = .ok (.goto 4, 3) := by decide +kernel
theorem dX9_writeBench_13 : decode cX9_writeBench 13 = .ok (.iconst 1, 1) := by decide +kernel
theorem dX9_writeBench_14 : decode cX9_writeBench 14 = .ok (.putfield 38, 3) := by decide +kernel
theorem dX9_writeBench_17 : decode cX9_writeBench 17 = .ok (.aload_n 0, 1) := by decide +kernel
theorem dX9_writeBench_18 : decode cX9_writeBench 18 = .ok (.getfield 38, 3) := by decide +kernel
theorem dX9_writeBench_21 : decode cX9_writeBench 21 = .ok (.ifCond .le 5, 3) := by decide +kernel
theorem dX9_writeBench_24 : decode cX9_writeBench 24 = .ok (.iconst 0, 1) := by decide +kernel
theorem dX9_writeBench_25 : decode cX9_writeBench 25 = .ok (.ireturn, 1) := by decide +kernel
theorem dX9_writeBench_26 : decode cX9_writeBench 26 = .ok (.aload_n 0, 1) := by decide +kernel
theorem dX9_writeBench_27 : decode cX9_writeBench 27 = .ok (.iconst 0, 1) := by decide +kernel
theorem dX9_writeBench_28 : decode cX9_writeBench 28 = .ok (.putfield 202, 3) := by decide +kernel
theorem dX9_writeBench_31 : decode cX9_writeBench 31 = .ok (.aload_n 0, 1) := by decide +kernel
theorem dX9_writeBench_32 : decode cX9_writeBench 32 = .ok (.iload_n 1, 1) := by decide +kernel
theorem dX9_writeBench_33 : decode cX9_writeBench 33 = .ok (.invokevirtual 209, 3) := by decide +kernel
theorem dX9_writeBench_36 : decode cX9_writeBench 36 = .ok (.aload_n 0, 1) := by decide +kernel
theorem dX9_writeBench_37 : decode cX9_writeBench 37 = .ok (.bipush 64, 2) := by decide +kernel
theorem dX9_writeBench_39 : decode cX9_writeBench 39 = .ok (.invokevirtual 205, 3) := by decide +kernel
theorem dX9_writeBench_42 : decode cX9_writeBench 42 = .ok (.aload_n 0, 1) := by decide +kernel
theorem dX9_writeBench_43 : decode cX9_writeBench 43 = .ok (.aload_n 0, 1) := by decide +kernel
theorem dX9_writeBench_44 : decode cX9_writeBench 44 = .ok (.iload_n 1, 1) := by decide +kernel
theorem dX9_writeBench_45 : decode cX9_writeBench 45 = .ok (.iconst 0, 1) := by decide +kernel
theorem dX9_writeBench_46 : decode cX9_writeBench 46 = .ok (.invokevirtual 70, 3) := by decide +kernel
theorem dX9_writeBench_49 : decode cX9_writeBench 49 = .ok (.invokevirtual 209, 3) := by decide +kernel
theorem dX9_writeBench_52 : decode cX9_writeBench 52 = .ok (.aload_n 0, 1) := by decide +kernel
theorem dX9_writeBench_53 : decode cX9_writeBench 53 = .ok (.bipush 44, 2) := by decide +kernel
theorem dX9_writeBench_55 : decode cX9_writeBench 55 = .ok (.invokevirtual 205, 3) := by decide +kernel
theorem dX9_writeBench_58 : decode cX9_writeBench 58 = .ok (.aload_n 0, 1) := by decide +kernel
theorem dX9_writeBench_59 : decode cX9_writeBench 59 = .ok (.aload_n 0, 1) := by decide +kernel
theorem dX9_writeBench_60 : decode cX9_writeBench 60 = .ok (.iload_n 1, 1) := by decide +kernel
theorem dX9_writeBench_61 : decode cX9_writeBench 61 = .ok (.iconst 1, 1) := by decide +kernel
theorem dX9_writeBench_62 : decode cX9_writeBench 62 = .ok (.invokevirtual 70, 3) := by decide +kernel
theorem dX9_writeBench_65 : decode cX9_writeBench 65 = .ok (.invokevirtual 209, 3) := by decide +kernel
theorem dX9_writeBench_68 : decode cX9_writeBench 68 = .ok (.aload_n 0, 1) := by decide +kernel
theorem dX9_writeBench_69 : decode cX9_writeBench 69 = .ok (.bipush 36, 2) := by decide +kernel
theorem dX9_writeBench_71 : decode cX9_writeBench 71 = .ok (.invokevirtual 205, 3) := by decide +kernel
theorem dX9_writeBench_74 : decode cX9_writeBench 74 = .ok (.aload_n 0, 1) := by decide +kernel
theorem dX9_writeBench_75 : decode cX9_writeBench 75 = .ok (.aload_n 0, 1) := by decide +kernel
theorem dX9_writeBench_76 : decode cX9_writeBench 76 = .ok (.iload_n 1, 1) := by decide +kernel
theorem dX9_writeBench_77 : decode cX9_writeBench 77 = .ok (.invokevirtual 115, 3) := by decide +kernel
theorem dX9_writeBench_80 : decode cX9_writeBench 80 = .ok (.invokevirtual 209, 3) := by decide +kernel
theorem dX9_writeBench_83 : decode cX9_writeBench 83 = .ok (.aload_n 0, 1) := by decide +kernel
theorem dX9_writeBench_84 : decode cX9_writeBench 84 = .ok (.bipush 126, 2) := by decide +kernel
theorem dX9_writeBench_86 : decode cX9_writeBench 86 = .ok (.invokevirtual 205, 3) := by decide +kernel
theorem dX9_writeBench_89 : decode cX9_writeBench 89 = .ok (.aload_n 0, 1) := by decide +kernel
theorem dX9_writeBench_90 : decode cX9_writeBench 90 = .ok (.aload_n 0, 1) := by decide +kernel
theorem dX9_writeBench_91 : decode cX9_writeBench 91 = .ok (.iload_n 1, 1) := by decide +kernel
theorem dX9_writeBench_92 : decode cX9_writeBench 92 = .ok (.invokevirtual 86, 3) := by decide +kernel
theorem dX9_writeBench_95 : decode cX9_writeBench 95 = .ok (.invokevirtual 209, 3) := by decide +kernel
theorem dX9_writeBench_98 : decode cX9_writeBench 98 = .ok (.aload_n 0, 1) := by decide +kernel
theorem dX9_writeBench_99 : decode cX9_writeBench 99 = .ok (.iload_n 1, 1) := by decide +kernel
theorem dX9_writeBench_100 : decode cX9_writeBench 100 = .ok (.invokevirtual 74, 3) := by decide +kernel
theorem dX9_writeBench_103 : decode cX9_writeBench 103 = .ok (.iconst (-1), 1) := by decide +kernel
theorem dX9_writeBench_104 : decode cX9_writeBench 104 = .ok (.if_icmp .eq 34, 3) := by decide +kernel
theorem dX9_writeBench_107 : decode cX9_writeBench 107 = .ok (.aload_n 0, 1) := by decide +kernel
theorem dX9_writeBench_108 : decode cX9_writeBench 108 = .ok (.bipush 61, 2) := by decide +kernel
theorem dX9_writeBench_110 : decode cX9_writeBench 110 = .ok (.invokevirtual 205, 3) := by decide +kernel
theorem dX9_writeBench_113 : decode cX9_writeBench 113 = .ok (.aload_n 0, 1) := by decide +kernel
theorem dX9_writeBench_114 : decode cX9_writeBench 114 = .ok (.aload_n 0, 1) := by decide +kernel
theorem dX9_writeBench_115 : decode cX9_writeBench 115 = .ok (.iload_n 1, 1) := by decide +kernel
theorem dX9_writeBench_116 : decode cX9_writeBench 116 = .ok (.invokevirtual 74, 3) := by decide +kernel
theorem dX9_writeBench_119 : decode cX9_writeBench 119 = .ok (.invokevirtual 209, 3) := by decide +kernel
theorem dX9_writeBench_122 : decode cX9_writeBench 122 = .ok (.aload_n 0, 1) := by decide +kernel
theorem dX9_writeBench_123 : decode cX9_writeBench 123 = .ok (.bipush 47, 2) := by decide +kernel
theorem dX9_writeBench_125 : decode cX9_writeBench 125 = .ok (.invokevirtual 205, 3) := by decide +kernel
theorem dX9_writeBench_128 : decode cX9_writeBench 128 = .ok (.aload_n 0, 1) := by decide +kernel
theorem dX9_writeBench_129 : decode cX9_writeBench 129 = .ok (.aload_n 0, 1) := by decide +kernel
theorem dX9_writeBench_130 : decode cX9_writeBench 130 = .ok (.iload_n 1, 1) := by decide +kernel
theorem dX9_writeBench_131 : decode cX9_writeBench 131 = .ok (.iconst 5, 1) := by decide +kernel
theorem dX9_writeBench_132 : decode cX9_writeBench 132 = .ok (.invokevirtual 70, 3) := by decide +kernel
theorem dX9_writeBench_135 : decode cX9_writeBench 135 = .ok (.invokevirtual 209, 3) := by decide +kernel
theorem dX9_writeBench_138 : decode cX9_writeBench 138 = .ok (.aload_n 0, 1) := by decide +kernel
theorem dX9_writeBench_139 : decode cX9_writeBench 139 = .ok (.getfield 202, 3) := by decide +kernel
theorem dX9_writeBench_142 : decode cX9_writeBench 142 = .ok (.ireturn, 1) := by decide +kernel
theorem dX9_writeRow_0 : decode cX9_writeRow 0 = .ok (.aload_n 0, 1) := by decide +kernel
theorem dX9_writeRow_1 : decode cX9_writeRow 1 = .ok (.iload_n 1, 1) := by decide +kernel
theorem dX9_writeRow_2 : decode cX9_writeRow 2 = .ok (.iconst 0, 1) := by decide +kernel
theorem dX9_writeRow_3 : decode cX9_writeRow 3 = .ok (.iconst 5, 1) := by decide +kernel
theorem dX9_writeRow_4 : decode cX9_writeRow 4 = .ok (.invokestatic 66, 3) := by decide +kernel
theorem dX9_writeRow_7 : decode cX9_writeRow 7 = .ok (.ifCond .eq 7, 3) := by decide +kernel
theorem dX9_writeRow_10 : decode cX9_writeRow 10 = .ok (.iconst 0, 1) := by decide +kernel
theorem dX9_writeRow_11 : decode cX9_writeRow 11 = .ok (.goto 4, 3) := by decide +kernel
theorem dX9_writeRow_14 : decode cX9_writeRow 14 = .ok (.iconst 1, 1) := by decide +kernel
theorem dX9_writeRow_15 : decode cX9_writeRow 15 = .ok (.putfield 38, 3) := by decide +kernel
theorem dX9_writeRow_18 : decode cX9_writeRow 18 = .ok (.aload_n 0, 1) := by decide +kernel
theorem dX9_writeRow_19 : decode cX9_writeRow 19 = .ok (.getfield 38, 3) := by decide +kernel
theorem dX9_writeRow_22 : decode cX9_writeRow 22 = .ok (.ifCond .le 5, 3) := by decide +kernel
theorem dX9_writeRow_25 : decode cX9_writeRow 25 = .ok (.iconst 0, 1) := by decide +kernel
theorem dX9_writeRow_26 : decode cX9_writeRow 26 = .ok (.ireturn, 1) := by decide +kernel
theorem dX9_writeRow_27 : decode cX9_writeRow 27 = .ok (.aload_n 0, 1) := by decide +kernel
theorem dX9_writeRow_28 : decode cX9_writeRow 28 = .ok (.iconst 0, 1) := by decide +kernel
theorem dX9_writeRow_29 : decode cX9_writeRow 29 = .ok (.putfield 202, 3) := by decide +kernel
theorem dX9_writeRow_32 : decode cX9_writeRow 32 = .ok (.iconst 0, 1) := by decide +kernel
theorem dX9_writeRow_33 : decode cX9_writeRow 33 = .ok (.istore_n 2, 1) := by decide +kernel
theorem dX9_writeRow_34 : decode cX9_writeRow 34 = .ok (.iload_n 2, 1) := by decide +kernel
theorem dX9_writeRow_35 : decode cX9_writeRow 35 = .ok (.bipush 6, 2) := by decide +kernel
theorem dX9_writeRow_37 : decode cX9_writeRow 37 = .ok (.if_icmp .ge 63, 3) := by decide +kernel
theorem dX9_writeRow_40 : decode cX9_writeRow 40 = .ok (.aload_n 0, 1) := by decide +kernel
theorem dX9_writeRow_41 : decode cX9_writeRow 41 = .ok (.iload_n 1, 1) := by decide +kernel
theorem dX9_writeRow_42 : decode cX9_writeRow 42 = .ok (.iload_n 2, 1) := by decide +kernel
theorem dX9_writeRow_43 : decode cX9_writeRow 43 = .ok (.invokevirtual 96, 3) := by decide +kernel
theorem dX9_writeRow_46 : decode cX9_writeRow 46 = .ok (.istore_n 3, 1) := by decide +kernel
theorem dX9_writeRow_47 : decode cX9_writeRow 47 = .ok (.aload_n 0, 1) := by decide +kernel
theorem dX9_writeRow_48 : decode cX9_writeRow 48 = .ok (.iload_n 3, 1) := by decide +kernel
theorem dX9_writeRow_49 : decode cX9_writeRow 49 = .ok (.iconst (-1), 1) := by decide +kernel
theorem dX9_writeRow_50 : decode cX9_writeRow 50 = .ok (.if_icmp .ne 8, 3) := by decide +kernel
theorem dX9_writeRow_53 : decode cX9_writeRow 53 = .ok (.bipush 46, 2) := by decide +kernel
theorem dX9_writeRow_55 : decode cX9_writeRow 55 = .ok (.goto 36, 3) := by decide +kernel
theorem dX9_writeRow_58 : decode cX9_writeRow 58 = .ok (.iload_n 3, 1) := by decide +kernel
theorem dX9_writeRow_59 : decode cX9_writeRow 59 = .ok (.bipush 10, 2) := by decide +kernel
theorem dX9_writeRow_61 : decode cX9_writeRow 61 = .ok (.if_icmp .ge 10, 3) := by decide +kernel
theorem dX9_writeRow_64 : decode cX9_writeRow 64 = .ok (.bipush 48, 2) := by decide +kernel
theorem dX9_writeRow_66 : decode cX9_writeRow 66 = .ok (.iload_n 3, 1) := by decide +kernel
theorem dX9_writeRow_67 : decode cX9_writeRow 67 = .ok (.iadd, 1) := by decide +kernel
theorem dX9_writeRow_68 : decode cX9_writeRow 68 = .ok (.goto 23, 3) := by decide +kernel
theorem dX9_writeRow_71 : decode cX9_writeRow 71 = .ok (.aload_n 0, 1) := by decide +kernel
theorem dX9_writeRow_72 : decode cX9_writeRow 72 = .ok (.iload_n 3, 1) := by decide +kernel
theorem dX9_writeRow_73 : decode cX9_writeRow 73 = .ok (.bipush 10, 2) := by decide +kernel
theorem dX9_writeRow_75 : decode cX9_writeRow 75 = .ok (.isub, 1) := by decide +kernel
theorem dX9_writeRow_76 : decode cX9_writeRow 76 = .ok (.iconst 3, 1) := by decide +kernel
theorem dX9_writeRow_77 : decode cX9_writeRow 77 = .ok (.invokevirtual 77, 3) := by decide +kernel
theorem dX9_writeRow_80 : decode cX9_writeRow 80 = .ok (.iconst 1, 1) := by decide +kernel
theorem dX9_writeRow_81 : decode cX9_writeRow 81 = .ok (.if_icmp .ne 8, 3) := by decide +kernel
theorem dX9_writeRow_84 : decode cX9_writeRow 84 = .ok (.bipush 70, 2) := by decide +kernel
theorem dX9_writeRow_86 : decode cX9_writeRow 86 = .ok (.goto 5, 3) := by decide +kernel
theorem dX9_writeRow_89 : decode cX9_writeRow 89 = .ok (.bipush 102, 2) := by decide +kernel
theorem dX9_writeRow_91 : decode cX9_writeRow 91 = .ok (.invokevirtual 205, 3) := by decide +kernel
theorem dX9_writeRow_94 : decode cX9_writeRow 94 = .ok (.iinc 2 1, 3) := by decide +kernel
theorem dX9_writeRow_97 : decode cX9_writeRow 97 = .ok (.goto (-63), 3) := by decide +kernel
theorem dX9_writeRow_100 : decode cX9_writeRow 100 = .ok (.aload_n 0, 1) := by decide +kernel
theorem dX9_writeRow_101 : decode cX9_writeRow 101 = .ok (.getfield 202, 3) := by decide +kernel
theorem dX9_writeRow_104 : decode cX9_writeRow 104 = .ok (.ireturn, 1) := by decide +kernel
theorem dX9_outputAt_0 : decode cX9_outputAt 0 = .ok (.aload_n 0, 1) := by decide +kernel
theorem dX9_outputAt_1 : decode cX9_outputAt 1 = .ok (.iload_n 1, 1) := by decide +kernel
theorem dX9_outputAt_2 : decode cX9_outputAt 2 = .ok (.iconst 0, 1) := by decide +kernel
theorem dX9_outputAt_3 : decode cX9_outputAt 3 = .ok (.aload_n 0, 1) := by decide +kernel
theorem dX9_outputAt_4 : decode cX9_outputAt 4 = .ok (.getfield 202, 3) := by decide +kernel
theorem dX9_outputAt_7 : decode cX9_outputAt 7 = .ok (.iconst 1, 1) := by decide +kernel
theorem dX9_outputAt_8 : decode cX9_outputAt 8 = .ok (.isub, 1) := by decide +kernel
theorem dX9_outputAt_9 : decode cX9_outputAt 9 = .ok (.invokestatic 66, 3) := by decide +kernel
theorem dX9_outputAt_12 : decode cX9_outputAt 12 = .ok (.ifCond .eq 7, 3) := by decide +kernel
theorem dX9_outputAt_15 : decode cX9_outputAt 15 = .ok (.iconst 0, 1) := by decide +kernel
theorem dX9_outputAt_16 : decode cX9_outputAt 16 = .ok (.goto 4, 3) := by decide +kernel
theorem dX9_outputAt_19 : decode cX9_outputAt 19 = .ok (.iconst 1, 1) := by decide +kernel
theorem dX9_outputAt_20 : decode cX9_outputAt 20 = .ok (.putfield 38, 3) := by decide +kernel
theorem dX9_outputAt_23 : decode cX9_outputAt 23 = .ok (.aload_n 0, 1) := by decide +kernel
theorem dX9_outputAt_24 : decode cX9_outputAt 24 = .ok (.getfield 38, 3) := by decide +kernel
theorem dX9_outputAt_27 : decode cX9_outputAt 27 = .ok (.ifCond .le 7, 3) := by decide +kernel
theorem dX9_outputAt_30 : decode cX9_outputAt 30 = .ok (.iconst 0, 1) := by decide +kernel
theorem dX9_outputAt_31 : decode cX9_outputAt 31 = .ok (.goto 10, 3) := by decide +kernel
theorem dX9_outputAt_34 : decode cX9_outputAt 34 = .ok (.aload_n 0, 1) := by decide +kernel
theorem dX9_outputAt_35 : decode cX9_outputAt 35 = .ok (.getfield 31, 3) := by decide +kernel
theorem dX9_outputAt_38 : decode cX9_outputAt 38 = .ok (.iload_n 1, 1) := by decide +kernel
theorem dX9_outputAt_39 : decode cX9_outputAt 39 = .ok (.iaload, 1) := by decide +kernel
theorem dX9_outputAt_40 : decode cX9_outputAt 40 = .ok (.i2c, 1) := by decide +kernel
theorem dX9_outputAt_41 : decode cX9_outputAt 41 = .ok (.ireturn, 1) := by decide +kernel
theorem dX9_appendInput_0 : decode cX9_appendInput 0 = .ok (.aload_n 0, 1) := by decide +kernel
theorem dX9_appendInput_1 : decode cX9_appendInput 1 = .ok (.iload_n 1, 1) := by decide +kernel
theorem dX9_appendInput_2 : decode cX9_appendInput 2 = .ok (.bipush 32, 2) := by decide +kernel
theorem dX9_appendInput_4 : decode cX9_appendInput 4 = .ok (.bipush 126, 2) := by decide +kernel
theorem dX9_appendInput_6 : decode cX9_appendInput 6 = .ok (.invokestatic 66, 3) := by decide +kernel
theorem dX9_appendInput_9 : decode cX9_appendInput 9 = .ok (.ifCond .ne 7, 3) := by decide +kernel
theorem dX9_appendInput_12 : decode cX9_appendInput 12 = .ok (.iconst 1, 1) := by decide +kernel
theorem dX9_appendInput_13 : decode cX9_appendInput 13 = .ok (.goto 17, 3) := by decide +kernel
theorem dX9_appendInput_16 : decode cX9_appendInput 16 = .ok (.aload_n 0, 1) := by decide +kernel
theorem dX9_appendInput_17 : decode cX9_appendInput 17 = .ok (.getfield 212, 3) := by decide +kernel
theorem dX9_appendInput_20 : decode cX9_appendInput 20 = .ok (.bipush 60, 2) := by decide +kernel
theorem dX9_appendInput_22 : decode cX9_appendInput 22 = .ok (.if_icmp .ne 7, 3) := by decide +kernel
theorem dX9_appendInput_25 : decode cX9_appendInput 25 = .ok (.iconst 2, 1) := by decide +kernel
theorem dX9_appendInput_26 : decode cX9_appendInput 26 = .ok (.goto 4, 3) := by decide +kernel
theorem dX9_appendInput_29 : decode cX9_appendInput 29 = .ok (.iconst 0, 1) := by decide +kernel
theorem dX9_appendInput_30 : decode cX9_appendInput 30 = .ok (.putfield 38, 3) := by decide +kernel
theorem dX9_appendInput_33 : decode cX9_appendInput 33 = .ok (.aload_n 0, 1) := by decide +kernel
theorem dX9_appendInput_34 : decode cX9_appendInput 34 = .ok (.getfield 38, 3) := by decide +kernel
theorem dX9_appendInput_37 : decode cX9_appendInput 37 = .ok (.ifCond .le 5, 3) := by decide +kernel
theorem dX9_appendInput_40 : decode cX9_appendInput 40 = .ok (.iconst 0, 1) := by decide +kernel
theorem dX9_appendInput_41 : decode cX9_appendInput 41 = .ok (.ireturn, 1) := by decide +kernel
theorem dX9_appendInput_42 : decode cX9_appendInput 42 = .ok (.aload_n 0, 1) := by decide +kernel
theorem dX9_appendInput_43 : decode cX9_appendInput 43 = .ok (.getfield 25, 3) := by decide +kernel
theorem dX9_appendInput_46 : decode cX9_appendInput 46 = .ok (.aload_n 0, 1) := by decide +kernel
theorem dX9_appendInput_47 : decode cX9_appendInput 47 = .ok (.getfield 212, 3) := by decide +kernel
theorem dX9_appendInput_50 : decode cX9_appendInput 50 = .ok (.iload_n 1, 1) := by decide +kernel
theorem dX9_appendInput_51 : decode cX9_appendInput 51 = .ok (.iastore, 1) := by decide +kernel
theorem dX9_appendInput_52 : decode cX9_appendInput 52 = .ok (.aload_n 0, 1) := by decide +kernel
theorem dX9_appendInput_53 : decode cX9_appendInput 53 = .ok (.dup, 1) := by decide +kernel
theorem dX9_appendInput_54 : decode cX9_appendInput 54 = .ok (.getfield 212, 3) := by decide +kernel
theorem dX9_appendInput_57 : decode cX9_appendInput 57 = .ok (.iconst 1, 1) := by decide +kernel
theorem dX9_appendInput_58 : decode cX9_appendInput 58 = .ok (.iadd, 1) := by decide +kernel
theorem dX9_appendInput_59 : decode cX9_appendInput 59 = .ok (.putfield 212, 3) := by decide +kernel
theorem dX9_appendInput_62 : decode cX9_appendInput 62 = .ok (.aload_n 0, 1) := by decide +kernel
theorem dX9_appendInput_63 : decode cX9_appendInput 63 = .ok (.getfield 212, 3) := by decide +kernel
theorem dX9_appendInput_66 : decode cX9_appendInput 66 = .ok (.ireturn, 1) := by decide +kernel
theorem dX9_here_0 : decode cX9_here 0 = .ok (.aload_n 0, 1) := by decide +kernel
theorem dX9_here_1 : decode cX9_here 1 = .ok (.getfield 215, 3) := by decide +kernel
theorem dX9_here_4 : decode cX9_here 4 = .ok (.iload_n 1, 1) := by decide +kernel
theorem dX9_here_5 : decode cX9_here 5 = .ok (.iadd, 1) := by decide +kernel
theorem dX9_here_6 : decode cX9_here 6 = .ok (.aload_n 0, 1) := by decide +kernel
theorem dX9_here_7 : decode cX9_here 7 = .ok (.getfield 218, 3) := by decide +kernel
theorem dX9_here_10 : decode cX9_here 10 = .ok (.if_icmp .ge 17, 3) := by decide +kernel
theorem dX9_here_13 : decode cX9_here 13 = .ok (.aload_n 0, 1) := by decide +kernel
theorem dX9_here_14 : decode cX9_here 14 = .ok (.getfield 25, 3) := by decide +kernel
theorem dX9_here_17 : decode cX9_here 17 = .ok (.aload_n 0, 1) := by decide +kernel
theorem dX9_here_18 : decode cX9_here 18 = .ok (.getfield 215, 3) := by decide +kernel
theorem dX9_here_21 : decode cX9_here 21 = .ok (.iload_n 1, 1) := by decide +kernel
theorem dX9_here_22 : decode cX9_here 22 = .ok (.iadd, 1) := by decide +kernel
theorem dX9_here_23 : decode cX9_here 23 = .ok (.iaload, 1) := by decide +kernel
theorem dX9_here_24 : decode cX9_here 24 = .ok (.goto 4, 3) := by decide +kernel
theorem dX9_here_27 : decode cX9_here 27 = .ok (.iconst (-1), 1) := by decide +kernel
theorem dX9_here_28 : decode cX9_here 28 = .ok (.ireturn, 1) := by decide +kernel
theorem dX9_says_0 : decode cX9_says 0 = .ok (.iconst 0, 1) := by decide +kernel
theorem dX9_says_1 : decode cX9_says 1 = .ok (.istore_n 2, 1) := by decide +kernel
theorem dX9_says_2 : decode cX9_says 2 = .ok (.iload_n 2, 1) := by decide +kernel
theorem dX9_says_3 : decode cX9_says 3 = .ok (.aload_n 1, 1) := by decide +kernel
theorem dX9_says_4 : decode cX9_says 4 = .ok (.invokevirtual 221, 3) := by decide +kernel
theorem dX9_says_7 : decode cX9_says 7 = .ok (.if_icmp .ge 59, 3) := by decide +kernel
theorem dX9_says_10 : decode cX9_says 10 = .ok (.aload_n 0, 1) := by decide +kernel
theorem dX9_says_11 : decode cX9_says 11 = .ok (.getfield 225, 3) := by decide +kernel
theorem dX9_says_14 : decode cX9_says 14 = .ok (.ifCond .ne 52, 3) := by decide +kernel
theorem dX9_says_17 : decode cX9_says 17 = .ok (.aload_n 0, 1) := by decide +kernel
theorem dX9_says_18 : decode cX9_says 18 = .ok (.aload_n 0, 1) := by decide +kernel
theorem dX9_says_19 : decode cX9_says 19 = .ok (.iconst 0, 1) := by decide +kernel
theorem dX9_says_20 : decode cX9_says 20 = .ok (.invokevirtual 229, 3) := by decide +kernel
theorem dX9_says_23 : decode cX9_says 23 = .ok (.aload_n 1, 1) := by decide +kernel
theorem dX9_says_24 : decode cX9_says 24 = .ok (.iload_n 2, 1) := by decide +kernel
theorem dX9_says_25 : decode cX9_says 25 = .ok (.invokevirtual 232, 3) := by decide +kernel
theorem dX9_says_28 : decode cX9_says 28 = .ok (.if_icmp .eq 7, 3) := by decide +kernel
theorem dX9_says_31 : decode cX9_says 31 = .ok (.iconst 1, 1) := by decide +kernel
theorem dX9_says_32 : decode cX9_says 32 = .ok (.goto 4, 3) := by decide +kernel
theorem dX9_says_35 : decode cX9_says 35 = .ok (.iconst 0, 1) := by decide +kernel
theorem dX9_says_36 : decode cX9_says 36 = .ok (.putfield 225, 3) := by decide +kernel
theorem dX9_says_39 : decode cX9_says 39 = .ok (.aload_n 0, 1) := by decide +kernel
theorem dX9_says_40 : decode cX9_says 40 = .ok (.dup, 1) := by decide +kernel
theorem dX9_says_41 : decode cX9_says 41 = .ok (.getfield 215, 3) := by decide +kernel
theorem dX9_says_44 : decode cX9_says 44 = .ok (.aload_n 0, 1) := by decide +kernel
theorem dX9_says_45 : decode cX9_says 45 = .ok (.getfield 225, 3) := by decide +kernel
theorem dX9_says_48 : decode cX9_says 48 = .ok (.ifCond .eq 7, 3) := by decide +kernel
theorem dX9_says_51 : decode cX9_says 51 = .ok (.iconst 0, 1) := by decide +kernel
theorem dX9_says_52 : decode cX9_says 52 = .ok (.goto 4, 3) := by decide +kernel
theorem dX9_says_55 : decode cX9_says 55 = .ok (.iconst 1, 1) := by decide +kernel
theorem dX9_says_56 : decode cX9_says 56 = .ok (.iadd, 1) := by decide +kernel
theorem dX9_says_57 : decode cX9_says 57 = .ok (.putfield 215, 3) := by decide +kernel
theorem dX9_says_60 : decode cX9_says 60 = .ok (.iinc 2 1, 3) := by decide +kernel
theorem dX9_says_63 : decode cX9_says 63 = .ok (.goto (-61), 3) := by decide +kernel
theorem dX9_says_66 : decode cX9_says 66 = .ok (.return_, 1) := by decide +kernel
theorem dX9_number_0 : decode cX9_number 0 = .ok (.aload_n 0, 1) := by decide +kernel
theorem dX9_number_1 : decode cX9_number 1 = .ok (.ldc 236, 2) := by decide +kernel
theorem dX9_number_3 : decode cX9_number 3 = .ok (.invokevirtual 238, 3) := by decide +kernel
theorem dX9_number_6 : decode cX9_number 6 = .ok (.iconst 0, 1) := by decide +kernel
theorem dX9_number_7 : decode cX9_number 7 = .ok (.istore_n 3, 1) := by decide +kernel
theorem dX9_number_8 : decode cX9_number 8 = .ok (.iconst 0, 1) := by decide +kernel
theorem dX9_number_9 : decode cX9_number 9 = .ok (.istore 4, 2) := by decide +kernel
theorem dX9_number_11 : decode cX9_number 11 = .ok (.aload_n 0, 1) := by decide +kernel
theorem dX9_number_12 : decode cX9_number 12 = .ok (.getfield 225, 3) := by decide +kernel
theorem dX9_number_15 : decode cX9_number 15 = .ok (.ifCond .ne 54, 3) := by decide +kernel
theorem dX9_number_18 : decode cX9_number 18 = .ok (.iload 4, 2) := by decide +kernel
theorem dX9_number_20 : decode cX9_number 20 = .ok (.iload_n 2, 1) := by decide +kernel
theorem dX9_number_21 : decode cX9_number 21 = .ok (.if_icmp .ge 48, 3) := by decide +kernel
theorem dX9_number_24 : decode cX9_number 24 = .ok (.aload_n 0, 1) := by decide +kernel
theorem dX9_number_25 : decode cX9_number 25 = .ok (.iconst 0, 1) := by decide +kernel
theorem dX9_number_26 : decode cX9_number 26 = .ok (.invokevirtual 229, 3) := by decide +kernel
theorem dX9_number_29 : decode cX9_number 29 = .ok (.bipush 48, 2) := by decide +kernel
theorem dX9_number_31 : decode cX9_number 31 = .ok (.bipush 57, 2) := by decide +kernel
theorem dX9_number_33 : decode cX9_number 33 = .ok (.invokestatic 66, 3) := by decide +kernel
theorem dX9_number_36 : decode cX9_number 36 = .ok (.ifCond .eq 33, 3) := by decide +kernel
theorem dX9_number_39 : decode cX9_number 39 = .ok (.bipush 10, 2) := by decide +kernel
theorem dX9_number_41 : decode cX9_number 41 = .ok (.iload_n 3, 1) := by decide +kernel
theorem dX9_number_42 : decode cX9_number 42 = .ok (.imul, 1) := by decide +kernel
theorem dX9_number_43 : decode cX9_number 43 = .ok (.aload_n 0, 1) := by decide +kernel
theorem dX9_number_44 : decode cX9_number 44 = .ok (.iconst 0, 1) := by decide +kernel
theorem dX9_number_45 : decode cX9_number 45 = .ok (.invokevirtual 229, 3) := by decide +kernel
theorem dX9_number_48 : decode cX9_number 48 = .ok (.iadd, 1) := by decide +kernel
theorem dX9_number_49 : decode cX9_number 49 = .ok (.bipush 48, 2) := by decide +kernel
theorem dX9_number_51 : decode cX9_number 51 = .ok (.isub, 1) := by decide +kernel
theorem dX9_number_52 : decode cX9_number 52 = .ok (.istore_n 3, 1) := by decide +kernel
theorem dX9_number_53 : decode cX9_number 53 = .ok (.aload_n 0, 1) := by decide +kernel
theorem dX9_number_54 : decode cX9_number 54 = .ok (.dup, 1) := by decide +kernel
theorem dX9_number_55 : decode cX9_number 55 = .ok (.getfield 215, 3) := by decide +kernel
theorem dX9_number_58 : decode cX9_number 58 = .ok (.iconst 1, 1) := by decide +kernel
theorem dX9_number_59 : decode cX9_number 59 = .ok (.iadd, 1) := by decide +kernel
theorem dX9_number_60 : decode cX9_number 60 = .ok (.putfield 215, 3) := by decide +kernel
theorem dX9_number_63 : decode cX9_number 63 = .ok (.iinc 4 1, 3) := by decide +kernel
theorem dX9_number_66 : decode cX9_number 66 = .ok (.goto (-55), 3) := by decide +kernel
theorem dX9_number_69 : decode cX9_number 69 = .ok (.aload_n 0, 1) := by decide +kernel
theorem dX9_number_70 : decode cX9_number 70 = .ok (.aload_n 0, 1) := by decide +kernel
theorem dX9_number_71 : decode cX9_number 71 = .ok (.getfield 225, 3) := by decide +kernel
theorem dX9_number_74 : decode cX9_number 74 = .ok (.ifCond .ne 8, 3) := by decide +kernel
theorem dX9_number_77 : decode cX9_number 77 = .ok (.iload 4, 2) := by decide +kernel
theorem dX9_number_79 : decode cX9_number 79 = .ok (.ifCond .ne 7, 3) := by decide +kernel
theorem dX9_number_82 : decode cX9_number 82 = .ok (.iconst 1, 1) := by decide +kernel
theorem dX9_number_83 : decode cX9_number 83 = .ok (.goto 4, 3) := by decide +kernel
theorem dX9_number_86 : decode cX9_number 86 = .ok (.iconst 0, 1) := by decide +kernel
theorem dX9_number_87 : decode cX9_number 87 = .ok (.putfield 225, 3) := by decide +kernel
theorem dX9_number_90 : decode cX9_number 90 = .ok (.aload_n 0, 1) := by decide +kernel
theorem dX9_number_91 : decode cX9_number 91 = .ok (.getfield 28, 3) := by decide +kernel
theorem dX9_number_94 : decode cX9_number 94 = .ok (.iconst 4, 1) := by decide +kernel
theorem dX9_number_95 : decode cX9_number 95 = .ok (.aload_n 0, 1) := by decide +kernel
theorem dX9_number_96 : decode cX9_number 96 = .ok (.getfield 242, 3) := by decide +kernel
theorem dX9_number_99 : decode cX9_number 99 = .ok (.imul, 1) := by decide +kernel
theorem dX9_number_100 : decode cX9_number 100 = .ok (.iload_n 1, 1) := by decide +kernel
theorem dX9_number_101 : decode cX9_number 101 = .ok (.iadd, 1) := by decide +kernel
theorem dX9_number_102 : decode cX9_number 102 = .ok (.iload_n 3, 1) := by decide +kernel
theorem dX9_number_103 : decode cX9_number 103 = .ok (.iastore, 1) := by decide +kernel
theorem dX9_number_104 : decode cX9_number 104 = .ok (.return_, 1) := by decide +kernel
theorem dX9_one_0 : decode cX9_one 0 = .ok (.aload_n 0, 1) := by decide +kernel
theorem dX9_one_1 : decode cX9_one 1 = .ok (.getfield 28, 3) := by decide +kernel
theorem dX9_one_4 : decode cX9_one 4 = .ok (.iconst 4, 1) := by decide +kernel
theorem dX9_one_5 : decode cX9_one 5 = .ok (.aload_n 0, 1) := by decide +kernel
theorem dX9_one_6 : decode cX9_one 6 = .ok (.getfield 242, 3) := by decide +kernel
theorem dX9_one_9 : decode cX9_one 9 = .ok (.imul, 1) := by decide +kernel
theorem dX9_one_10 : decode cX9_one 10 = .ok (.iload_n 1, 1) := by decide +kernel
theorem dX9_one_11 : decode cX9_one 11 = .ok (.iastore, 1) := by decide +kernel
theorem dX9_one_12 : decode cX9_one 12 = .ok (.aload_n 0, 1) := by decide +kernel
theorem dX9_one_13 : decode cX9_one 13 = .ok (.aload_n 2, 1) := by decide +kernel
theorem dX9_one_14 : decode cX9_one 14 = .ok (.invokevirtual 238, 3) := by decide +kernel
theorem dX9_one_17 : decode cX9_one 17 = .ok (.aload_n 0, 1) := by decide +kernel
theorem dX9_one_18 : decode cX9_one 18 = .ok (.iconst 1, 1) := by decide +kernel
theorem dX9_one_19 : decode cX9_one 19 = .ok (.iload_n 3, 1) := by decide +kernel
theorem dX9_one_20 : decode cX9_one 20 = .ok (.invokevirtual 245, 3) := by decide +kernel
theorem dX9_one_23 : decode cX9_one 23 = .ok (.iload 4, 2) := by decide +kernel
theorem dX9_one_25 : decode cX9_one 25 = .ok (.ifCond .le 10, 3) := by decide +kernel
theorem dX9_one_28 : decode cX9_one 28 = .ok (.aload_n 0, 1) := by decide +kernel
theorem dX9_one_29 : decode cX9_one 29 = .ok (.iconst 2, 1) := by decide +kernel
theorem dX9_one_30 : decode cX9_one 30 = .ok (.iload 4, 2) := by decide +kernel
theorem dX9_one_32 : decode cX9_one 32 = .ok (.invokevirtual 245, 3) := by decide +kernel
theorem dX9_one_35 : decode cX9_one 35 = .ok (.iload 5, 2) := by decide +kernel
theorem dX9_one_37 : decode cX9_one 37 = .ok (.ifCond .le 10, 3) := by decide +kernel
theorem dX9_one_40 : decode cX9_one 40 = .ok (.aload_n 0, 1) := by decide +kernel
theorem dX9_one_41 : decode cX9_one 41 = .ok (.iconst 3, 1) := by decide +kernel
theorem dX9_one_42 : decode cX9_one 42 = .ok (.iload 5, 2) := by decide +kernel
theorem dX9_one_44 : decode cX9_one 44 = .ok (.invokevirtual 245, 3) := by decide +kernel
theorem dX9_one_47 : decode cX9_one 47 = .ok (.return_, 1) := by decide +kernel
theorem dX9_readsOne_0 : decode cX9_readsOne 0 = .ok (.aload_n 0, 1) := by decide +kernel
theorem dX9_readsOne_1 : decode cX9_readsOne 1 = .ok (.iconst 0, 1) := by decide +kernel
theorem dX9_readsOne_2 : decode cX9_readsOne 2 = .ok (.invokevirtual 229, 3) := by decide +kernel
theorem dX9_readsOne_5 : decode cX9_readsOne 5 = .ok (.tableswitch 247 98 116 #[91, 247, 247, 187, 105, 133, 247, 247, 247, 247, 147, 247, 247, 247, 232, 247, 202, 217, 119], 91) := by decide +kernel
theorem dX9_readsOne_96 : decode cX9_readsOne 96 = .ok (.aload_n 0, 1) := by decide +kernel
theorem dX9_readsOne_97 : decode cX9_readsOne 97 = .ok (.bipush 98, 2) := by decide +kernel
theorem dX9_readsOne_99 : decode cX9_readsOne 99 = .ok (.ldc 248, 2) := by decide +kernel
theorem dX9_readsOne_101 : decode cX9_readsOne 101 = .ok (.iconst 1, 1) := by decide +kernel
theorem dX9_readsOne_102 : decode cX9_readsOne 102 = .ok (.iconst 1, 1) := by decide +kernel
theorem dX9_readsOne_103 : decode cX9_readsOne 103 = .ok (.iconst 2, 1) := by decide +kernel
theorem dX9_readsOne_104 : decode cX9_readsOne 104 = .ok (.invokevirtual 249, 3) := by decide +kernel
theorem dX9_readsOne_107 : decode cX9_readsOne 107 = .ok (.goto 150, 3) := by decide +kernel
theorem dX9_readsOne_110 : decode cX9_readsOne 110 = .ok (.aload_n 0, 1) := by decide +kernel
theorem dX9_readsOne_111 : decode cX9_readsOne 111 = .ok (.bipush 102, 2) := by decide +kernel
theorem dX9_readsOne_113 : decode cX9_readsOne 113 = .ok (.ldc 253, 2) := by decide +kernel
theorem dX9_readsOne_115 : decode cX9_readsOne 115 = .ok (.iconst 1, 1) := by decide +kernel
theorem dX9_readsOne_116 : decode cX9_readsOne 116 = .ok (.iconst 1, 1) := by decide +kernel
theorem dX9_readsOne_117 : decode cX9_readsOne 117 = .ok (.iconst 1, 1) := by decide +kernel
theorem dX9_readsOne_118 : decode cX9_readsOne 118 = .ok (.invokevirtual 249, 3) := by decide +kernel
theorem dX9_readsOne_121 : decode cX9_readsOne 121 = .ok (.goto 136, 3) := by decide +kernel
theorem dX9_readsOne_124 : decode cX9_readsOne 124 = .ok (.aload_n 0, 1) := by decide +kernel
theorem dX9_readsOne_125 : decode cX9_readsOne 125 = .ok (.bipush 116, 2) := by decide +kernel
theorem dX9_readsOne_127 : decode cX9_readsOne 127 = .ok (.ldc 254, 2) := by decide +kernel
theorem dX9_readsOne_129 : decode cX9_readsOne 129 = .ok (.iconst 2, 1) := by decide +kernel
theorem dX9_readsOne_130 : decode cX9_readsOne 130 = .ok (.iconst 0, 1) := by decide +kernel
theorem dX9_readsOne_131 : decode cX9_readsOne 131 = .ok (.iconst 0, 1) := by decide +kernel
theorem dX9_readsOne_132 : decode cX9_readsOne 132 = .ok (.invokevirtual 249, 3) := by decide +kernel
theorem dX9_readsOne_135 : decode cX9_readsOne 135 = .ok (.goto 122, 3) := by decide +kernel
theorem dX9_readsOne_138 : decode cX9_readsOne 138 = .ok (.aload_n 0, 1) := by decide +kernel
theorem dX9_readsOne_139 : decode cX9_readsOne 139 = .ok (.bipush 103, 2) := by decide +kernel
theorem dX9_readsOne_141 : decode cX9_readsOne 141 = .ok (.ldc 255, 2) := by decide +kernel
theorem dX9_readsOne_143 : decode cX9_readsOne 143 = .ok (.iconst 1, 1) := by decide +kernel
theorem dX9_readsOne_144 : decode cX9_readsOne 144 = .ok (.iconst 2, 1) := by decide +kernel
theorem dX9_readsOne_145 : decode cX9_readsOne 145 = .ok (.iconst 0, 1) := by decide +kernel
theorem dX9_readsOne_146 : decode cX9_readsOne 146 = .ok (.invokevirtual 249, 3) := by decide +kernel
theorem dX9_readsOne_149 : decode cX9_readsOne 149 = .ok (.goto 108, 3) := by decide +kernel
theorem dX9_readsOne_152 : decode cX9_readsOne 152 = .ok (.aload_n 0, 1) := by decide +kernel
theorem dX9_readsOne_153 : decode cX9_readsOne 153 = .ok (.iconst 1, 1) := by decide +kernel
theorem dX9_readsOne_154 : decode cX9_readsOne 154 = .ok (.invokevirtual 229, 3) := by decide +kernel
theorem dX9_readsOne_157 : decode cX9_readsOne 157 = .ok (.bipush 105, 2) := by decide +kernel
theorem dX9_readsOne_159 : decode cX9_readsOne 159 = .ok (.if_icmp .ne 18, 3) := by decide +kernel
theorem dX9_readsOne_162 : decode cX9_readsOne 162 = .ok (.aload_n 0, 1) := by decide +kernel
theorem dX9_readsOne_163 : decode cX9_readsOne 163 = .ok (.bipush 105, 2) := by decide +kernel
theorem dX9_readsOne_165 : decode cX9_readsOne 165 = .ok (.ldc_w 257, 3) := by decide +kernel
theorem dX9_readsOne_168 : decode cX9_readsOne 168 = .ok (.iconst 2, 1) := by decide +kernel
theorem dX9_readsOne_169 : decode cX9_readsOne 169 = .ok (.iconst 0, 1) := by decide +kernel
theorem dX9_readsOne_170 : decode cX9_readsOne 170 = .ok (.iconst 0, 1) := by decide +kernel
theorem dX9_readsOne_171 : decode cX9_readsOne 171 = .ok (.invokevirtual 249, 3) := by decide +kernel
theorem dX9_readsOne_174 : decode cX9_readsOne 174 = .ok (.goto 83, 3) := by decide +kernel
theorem dX9_readsOne_177 : decode cX9_readsOne 177 = .ok (.aload_n 0, 1) := by decide +kernel
theorem dX9_readsOne_178 : decode cX9_readsOne 178 = .ok (.bipush 108, 2) := by decide +kernel
theorem dX9_readsOne_180 : decode cX9_readsOne 180 = .ok (.ldc_w 259, 3) := by decide +kernel
theorem dX9_readsOne_183 : decode cX9_readsOne 183 = .ok (.iconst 1, 1) := by decide +kernel
theorem dX9_readsOne_184 : decode cX9_readsOne 184 = .ok (.iconst 1, 1) := by decide +kernel
theorem dX9_readsOne_185 : decode cX9_readsOne 185 = .ok (.iconst 2, 1) := by decide +kernel
theorem dX9_readsOne_186 : decode cX9_readsOne 186 = .ok (.invokevirtual 249, 3) := by decide +kernel
theorem dX9_readsOne_189 : decode cX9_readsOne 189 = .ok (.goto 68, 3) := by decide +kernel
theorem dX9_readsOne_192 : decode cX9_readsOne 192 = .ok (.aload_n 0, 1) := by decide +kernel
theorem dX9_readsOne_193 : decode cX9_readsOne 193 = .ok (.bipush 101, 2) := by decide +kernel
theorem dX9_readsOne_195 : decode cX9_readsOne 195 = .ok (.ldc_w 261, 3) := by decide +kernel
theorem dX9_readsOne_198 : decode cX9_readsOne 198 = .ok (.iconst 1, 1) := by decide +kernel
theorem dX9_readsOne_199 : decode cX9_readsOne 199 = .ok (.iconst 0, 1) := by decide +kernel
theorem dX9_readsOne_200 : decode cX9_readsOne 200 = .ok (.iconst 0, 1) := by decide +kernel
theorem dX9_readsOne_201 : decode cX9_readsOne 201 = .ok (.invokevirtual 249, 3) := by decide +kernel
theorem dX9_readsOne_204 : decode cX9_readsOne 204 = .ok (.goto 53, 3) := by decide +kernel
theorem dX9_readsOne_207 : decode cX9_readsOne 207 = .ok (.aload_n 0, 1) := by decide +kernel
theorem dX9_readsOne_208 : decode cX9_readsOne 208 = .ok (.bipush 114, 2) := by decide +kernel
theorem dX9_readsOne_210 : decode cX9_readsOne 210 = .ok (.ldc_w 262, 3) := by decide +kernel
theorem dX9_readsOne_213 : decode cX9_readsOne 213 = .ok (.iconst 1, 1) := by decide +kernel
theorem dX9_readsOne_214 : decode cX9_readsOne 214 = .ok (.iconst 2, 1) := by decide +kernel
theorem dX9_readsOne_215 : decode cX9_readsOne 215 = .ok (.iconst 0, 1) := by decide +kernel
theorem dX9_readsOne_216 : decode cX9_readsOne 216 = .ok (.invokevirtual 249, 3) := by decide +kernel
theorem dX9_readsOne_219 : decode cX9_readsOne 219 = .ok (.goto 38, 3) := by decide +kernel
theorem dX9_readsOne_222 : decode cX9_readsOne 222 = .ok (.aload_n 0, 1) := by decide +kernel
theorem dX9_readsOne_223 : decode cX9_readsOne 223 = .ok (.bipush 115, 2) := by decide +kernel
theorem dX9_readsOne_225 : decode cX9_readsOne 225 = .ok (.ldc_w 264, 3) := by decide +kernel
theorem dX9_readsOne_228 : decode cX9_readsOne 228 = .ok (.iconst 1, 1) := by decide +kernel
theorem dX9_readsOne_229 : decode cX9_readsOne 229 = .ok (.iconst 0, 1) := by decide +kernel
theorem dX9_readsOne_230 : decode cX9_readsOne 230 = .ok (.iconst 0, 1) := by decide +kernel
theorem dX9_readsOne_231 : decode cX9_readsOne 231 = .ok (.invokevirtual 249, 3) := by decide +kernel
theorem dX9_readsOne_234 : decode cX9_readsOne 234 = .ok (.goto 23, 3) := by decide +kernel
theorem dX9_readsOne_237 : decode cX9_readsOne 237 = .ok (.aload_n 0, 1) := by decide +kernel
theorem dX9_readsOne_238 : decode cX9_readsOne 238 = .ok (.bipush 112, 2) := by decide +kernel
theorem dX9_readsOne_240 : decode cX9_readsOne 240 = .ok (.ldc_w 266, 3) := by decide +kernel
theorem dX9_readsOne_243 : decode cX9_readsOne 243 = .ok (.iconst 2, 1) := by decide +kernel
theorem dX9_readsOne_244 : decode cX9_readsOne 244 = .ok (.iconst 0, 1) := by decide +kernel
theorem dX9_readsOne_245 : decode cX9_readsOne 245 = .ok (.iconst 0, 1) := by decide +kernel
theorem dX9_readsOne_246 : decode cX9_readsOne 246 = .ok (.invokevirtual 249, 3) := by decide +kernel
theorem dX9_readsOne_249 : decode cX9_readsOne 249 = .ok (.goto 8, 3) := by decide +kernel
theorem dX9_readsOne_252 : decode cX9_readsOne 252 = .ok (.aload_n 0, 1) := by decide +kernel
theorem dX9_readsOne_253 : decode cX9_readsOne 253 = .ok (.iconst 1, 1) := by decide +kernel
theorem dX9_readsOne_254 : decode cX9_readsOne 254 = .ok (.putfield 225, 3) := by decide +kernel
theorem dX9_readsOne_257 : decode cX9_readsOne 257 = .ok (.aload_n 0, 1) := by decide +kernel
theorem dX9_readsOne_258 : decode cX9_readsOne 258 = .ok (.dup, 1) := by decide +kernel
theorem dX9_readsOne_259 : decode cX9_readsOne 259 = .ok (.getfield 242, 3) := by decide +kernel
theorem dX9_readsOne_262 : decode cX9_readsOne 262 = .ok (.iconst 1, 1) := by decide +kernel
theorem dX9_readsOne_263 : decode cX9_readsOne 263 = .ok (.iadd, 1) := by decide +kernel
theorem dX9_readsOne_264 : decode cX9_readsOne 264 = .ok (.putfield 242, 3) := by decide +kernel
theorem dX9_readsOne_267 : decode cX9_readsOne 267 = .ok (.return_, 1) := by decide +kernel
theorem dX9_does_0 : decode cX9_does 0 = .ok (.aload_n 0, 1) := by decide +kernel
theorem dX9_does_1 : decode cX9_does 1 = .ok (.getfield 28, 3) := by decide +kernel
theorem dX9_does_4 : decode cX9_does 4 = .ok (.iconst 4, 1) := by decide +kernel
theorem dX9_does_5 : decode cX9_does 5 = .ok (.iload_n 1, 1) := by decide +kernel
theorem dX9_does_6 : decode cX9_does 6 = .ok (.imul, 1) := by decide +kernel
theorem dX9_does_7 : decode cX9_does 7 = .ok (.iconst 1, 1) := by decide +kernel
theorem dX9_does_8 : decode cX9_does 8 = .ok (.iadd, 1) := by decide +kernel
theorem dX9_does_9 : decode cX9_does 9 = .ok (.iaload, 1) := by decide +kernel
theorem dX9_does_10 : decode cX9_does 10 = .ok (.istore_n 2, 1) := by decide +kernel
theorem dX9_does_11 : decode cX9_does 11 = .ok (.aload_n 0, 1) := by decide +kernel
theorem dX9_does_12 : decode cX9_does 12 = .ok (.getfield 28, 3) := by decide +kernel
theorem dX9_does_15 : decode cX9_does 15 = .ok (.iconst 4, 1) := by decide +kernel
theorem dX9_does_16 : decode cX9_does 16 = .ok (.iload_n 1, 1) := by decide +kernel
theorem dX9_does_17 : decode cX9_does 17 = .ok (.imul, 1) := by decide +kernel
theorem dX9_does_18 : decode cX9_does 18 = .ok (.iconst 2, 1) := by decide +kernel
theorem dX9_does_19 : decode cX9_does 19 = .ok (.iadd, 1) := by decide +kernel
theorem dX9_does_20 : decode cX9_does 20 = .ok (.iaload, 1) := by decide +kernel
theorem dX9_does_21 : decode cX9_does 21 = .ok (.istore_n 3, 1) := by decide +kernel
theorem dX9_does_22 : decode cX9_does 22 = .ok (.aload_n 0, 1) := by decide +kernel
theorem dX9_does_23 : decode cX9_does 23 = .ok (.getfield 28, 3) := by decide +kernel
theorem dX9_does_26 : decode cX9_does 26 = .ok (.iconst 4, 1) := by decide +kernel
theorem dX9_does_27 : decode cX9_does 27 = .ok (.iload_n 1, 1) := by decide +kernel
theorem dX9_does_28 : decode cX9_does 28 = .ok (.imul, 1) := by decide +kernel
theorem dX9_does_29 : decode cX9_does 29 = .ok (.iconst 3, 1) := by decide +kernel
theorem dX9_does_30 : decode cX9_does 30 = .ok (.iadd, 1) := by decide +kernel
theorem dX9_does_31 : decode cX9_does 31 = .ok (.iaload, 1) := by decide +kernel
theorem dX9_does_32 : decode cX9_does 32 = .ok (.istore 4, 2) := by decide +kernel
theorem dX9_does_34 : decode cX9_does 34 = .ok (.aload_n 0, 1) := by decide +kernel
theorem dX9_does_35 : decode cX9_does 35 = .ok (.getfield 28, 3) := by decide +kernel
theorem dX9_does_38 : decode cX9_does 38 = .ok (.iconst 4, 1) := by decide +kernel
theorem dX9_does_39 : decode cX9_does 39 = .ok (.iload_n 1, 1) := by decide +kernel
theorem dX9_does_40 : decode cX9_does 40 = .ok (.imul, 1) := by decide +kernel
theorem dX9_does_41 : decode cX9_does 41 = .ok (.iaload, 1) := by decide +kernel
theorem dX9_does_42 : decode cX9_does 42 = .ok (.tableswitch 155 98 116 #[90, 155, 155, 136, 99, 114, 155, 121, 155, 155, 127, 155, 155, 155, 155, 155, 142, 149, 108], 90) := by decide +kernel
theorem dX9_does_132 : decode cX9_does 132 = .ok (.aload_n 0, 1) := by decide +kernel
theorem dX9_does_133 : decode cX9_does 133 = .ok (.iload_n 2, 1) := by decide +kernel
theorem dX9_does_134 : decode cX9_does 134 = .ok (.iload_n 3, 1) := by decide +kernel
theorem dX9_does_135 : decode cX9_does 135 = .ok (.iload 4, 2) := by decide +kernel
theorem dX9_does_137 : decode cX9_does 137 = .ok (.invokevirtual 137, 3) := by decide +kernel
theorem dX9_does_140 : decode cX9_does 140 = .ok (.ireturn, 1) := by decide +kernel
theorem dX9_does_141 : decode cX9_does 141 = .ok (.aload_n 0, 1) := by decide +kernel
theorem dX9_does_142 : decode cX9_does 142 = .ok (.iload_n 2, 1) := by decide +kernel
theorem dX9_does_143 : decode cX9_does 143 = .ok (.iload_n 3, 1) := by decide +kernel
theorem dX9_does_144 : decode cX9_does 144 = .ok (.iload 4, 2) := by decide +kernel
theorem dX9_does_146 : decode cX9_does 146 = .ok (.invokevirtual 147, 3) := by decide +kernel
theorem dX9_does_149 : decode cX9_does 149 = .ok (.ireturn, 1) := by decide +kernel
theorem dX9_does_150 : decode cX9_does 150 = .ok (.aload_n 0, 1) := by decide +kernel
theorem dX9_does_151 : decode cX9_does 151 = .ok (.iload_n 2, 1) := by decide +kernel
theorem dX9_does_152 : decode cX9_does 152 = .ok (.invokevirtual 165, 3) := by decide +kernel
theorem dX9_does_155 : decode cX9_does 155 = .ok (.ireturn, 1) := by decide +kernel
theorem dX9_does_156 : decode cX9_does 156 = .ok (.aload_n 0, 1) := by decide +kernel
theorem dX9_does_157 : decode cX9_does 157 = .ok (.iload_n 2, 1) := by decide +kernel
theorem dX9_does_158 : decode cX9_does 158 = .ok (.iload_n 3, 1) := by decide +kernel
theorem dX9_does_159 : decode cX9_does 159 = .ok (.invokevirtual 168, 3) := by decide +kernel
theorem dX9_does_162 : decode cX9_does 162 = .ok (.ireturn, 1) := by decide +kernel
theorem dX9_does_163 : decode cX9_does 163 = .ok (.aload_n 0, 1) := by decide +kernel
theorem dX9_does_164 : decode cX9_does 164 = .ok (.iload_n 2, 1) := by decide +kernel
theorem dX9_does_165 : decode cX9_does 165 = .ok (.invokevirtual 156, 3) := by decide +kernel
theorem dX9_does_168 : decode cX9_does 168 = .ok (.ireturn, 1) := by decide +kernel
theorem dX9_does_169 : decode cX9_does 169 = .ok (.aload_n 0, 1) := by decide +kernel
theorem dX9_does_170 : decode cX9_does 170 = .ok (.iload_n 2, 1) := by decide +kernel
theorem dX9_does_171 : decode cX9_does 171 = .ok (.iload_n 3, 1) := by decide +kernel
theorem dX9_does_172 : decode cX9_does 172 = .ok (.iload 4, 2) := by decide +kernel
theorem dX9_does_174 : decode cX9_does 174 = .ok (.invokevirtual 174, 3) := by decide +kernel
theorem dX9_does_177 : decode cX9_does 177 = .ok (.ireturn, 1) := by decide +kernel
theorem dX9_does_178 : decode cX9_does 178 = .ok (.aload_n 0, 1) := by decide +kernel
theorem dX9_does_179 : decode cX9_does 179 = .ok (.iload_n 2, 1) := by decide +kernel
theorem dX9_does_180 : decode cX9_does 180 = .ok (.invokevirtual 177, 3) := by decide +kernel
theorem dX9_does_183 : decode cX9_does 183 = .ok (.ireturn, 1) := by decide +kernel
theorem dX9_does_184 : decode cX9_does 184 = .ok (.aload_n 0, 1) := by decide +kernel
theorem dX9_does_185 : decode cX9_does 185 = .ok (.iload_n 2, 1) := by decide +kernel
theorem dX9_does_186 : decode cX9_does 186 = .ok (.iload_n 3, 1) := by decide +kernel
theorem dX9_does_187 : decode cX9_does 187 = .ok (.invokevirtual 180, 3) := by decide +kernel
theorem dX9_does_190 : decode cX9_does 190 = .ok (.ireturn, 1) := by decide +kernel
theorem dX9_does_191 : decode cX9_does 191 = .ok (.aload_n 0, 1) := by decide +kernel
theorem dX9_does_192 : decode cX9_does 192 = .ok (.iload_n 2, 1) := by decide +kernel
theorem dX9_does_193 : decode cX9_does 193 = .ok (.invokevirtual 153, 3) := by decide +kernel
theorem dX9_does_196 : decode cX9_does 196 = .ok (.ireturn, 1) := by decide +kernel
theorem dX9_does_197 : decode cX9_does 197 = .ok (.aload_n 0, 1) := by decide +kernel
theorem dX9_does_198 : decode cX9_does 198 = .ok (.iload_n 2, 1) := by decide +kernel
theorem dX9_does_199 : decode cX9_does 199 = .ok (.invokevirtual 186, 3) := by decide +kernel
theorem dX9_does_202 : decode cX9_does 202 = .ok (.ireturn, 1) := by decide +kernel
theorem dX9_execute_0 : decode cX9_execute 0 = .ok (.aload_n 0, 1) := by decide +kernel
theorem dX9_execute_1 : decode cX9_execute 1 = .ok (.invokevirtual 134, 3) := by decide +kernel
theorem dX9_execute_4 : decode cX9_execute 4 = .ok (.aload_n 0, 1) := by decide +kernel
theorem dX9_execute_5 : decode cX9_execute 5 = .ok (.iconst 0, 1) := by decide +kernel
theorem dX9_execute_6 : decode cX9_execute 6 = .ok (.putfield 215, 3) := by decide +kernel
theorem dX9_execute_9 : decode cX9_execute 9 = .ok (.aload_n 0, 1) := by decide +kernel
theorem dX9_execute_10 : decode cX9_execute 10 = .ok (.aload_n 0, 1) := by decide +kernel
theorem dX9_execute_11 : decode cX9_execute 11 = .ok (.getfield 212, 3) := by decide +kernel
theorem dX9_execute_14 : decode cX9_execute 14 = .ok (.putfield 218, 3) := by decide +kernel
theorem dX9_execute_17 : decode cX9_execute 17 = .ok (.aload_n 0, 1) := by decide +kernel
theorem dX9_execute_18 : decode cX9_execute 18 = .ok (.iconst 0, 1) := by decide +kernel
theorem dX9_execute_19 : decode cX9_execute 19 = .ok (.putfield 212, 3) := by decide +kernel
theorem dX9_execute_22 : decode cX9_execute 22 = .ok (.aload_n 0, 1) := by decide +kernel
theorem dX9_execute_23 : decode cX9_execute 23 = .ok (.iconst 0, 1) := by decide +kernel
theorem dX9_execute_24 : decode cX9_execute 24 = .ok (.putfield 242, 3) := by decide +kernel
theorem dX9_execute_27 : decode cX9_execute 27 = .ok (.aload_n 0, 1) := by decide +kernel
theorem dX9_execute_28 : decode cX9_execute 28 = .ok (.iconst 0, 1) := by decide +kernel
theorem dX9_execute_29 : decode cX9_execute 29 = .ok (.putfield 225, 3) := by decide +kernel
theorem dX9_execute_32 : decode cX9_execute 32 = .ok (.aload_n 0, 1) := by decide +kernel
theorem dX9_execute_33 : decode cX9_execute 33 = .ok (.invokevirtual 268, 3) := by decide +kernel
theorem dX9_execute_36 : decode cX9_execute 36 = .ok (.aload_n 0, 1) := by decide +kernel
theorem dX9_execute_37 : decode cX9_execute 37 = .ok (.getfield 225, 3) := by decide +kernel
theorem dX9_execute_40 : decode cX9_execute 40 = .ok (.ifCond .ne 30, 3) := by decide +kernel
theorem dX9_execute_43 : decode cX9_execute 43 = .ok (.aload_n 0, 1) := by decide +kernel
theorem dX9_execute_44 : decode cX9_execute 44 = .ok (.iconst 0, 1) := by decide +kernel
theorem dX9_execute_45 : decode cX9_execute 45 = .ok (.invokevirtual 229, 3) := by decide +kernel
theorem dX9_execute_48 : decode cX9_execute 48 = .ok (.bipush 59, 2) := by decide +kernel
theorem dX9_execute_50 : decode cX9_execute 50 = .ok (.if_icmp .ne 20, 3) := by decide +kernel
theorem dX9_execute_53 : decode cX9_execute 53 = .ok (.aload_n 0, 1) := by decide +kernel
theorem dX9_execute_54 : decode cX9_execute 54 = .ok (.dup, 1) := by decide +kernel
theorem dX9_execute_55 : decode cX9_execute 55 = .ok (.getfield 215, 3) := by decide +kernel
theorem dX9_execute_58 : decode cX9_execute 58 = .ok (.iconst 1, 1) := by decide +kernel
theorem dX9_execute_59 : decode cX9_execute 59 = .ok (.iadd, 1) := by decide +kernel
theorem dX9_execute_60 : decode cX9_execute 60 = .ok (.putfield 215, 3) := by decide +kernel
theorem dX9_execute_63 : decode cX9_execute 63 = .ok (.aload_n 0, 1) := by decide +kernel
theorem dX9_execute_64 : decode cX9_execute 64 = .ok (.invokevirtual 268, 3) := by decide +kernel
theorem dX9_execute_67 : decode cX9_execute 67 = .ok (.goto (-31), 3) := by decide +kernel
theorem dX9_execute_70 : decode cX9_execute 70 = .ok (.aload_n 0, 1) := by decide +kernel
theorem dX9_execute_71 : decode cX9_execute 71 = .ok (.getfield 225, 3) := by decide +kernel
theorem dX9_execute_74 : decode cX9_execute 74 = .ok (.ifCond .ne 14, 3) := by decide +kernel
theorem dX9_execute_77 : decode cX9_execute 77 = .ok (.aload_n 0, 1) := by decide +kernel
theorem dX9_execute_78 : decode cX9_execute 78 = .ok (.getfield 215, 3) := by decide +kernel
theorem dX9_execute_81 : decode cX9_execute 81 = .ok (.aload_n 0, 1) := by decide +kernel
theorem dX9_execute_82 : decode cX9_execute 82 = .ok (.getfield 218, 3) := by decide +kernel
theorem dX9_execute_85 : decode cX9_execute 85 = .ok (.if_icmp .ge 17, 3) := by decide +kernel
theorem dX9_execute_88 : decode cX9_execute 88 = .ok (.aload_n 0, 1) := by decide +kernel
theorem dX9_execute_89 : decode cX9_execute 89 = .ok (.aload_n 0, 1) := by decide +kernel
theorem dX9_execute_90 : decode cX9_execute 90 = .ok (.getfield 215, 3) := by decide +kernel
theorem dX9_execute_93 : decode cX9_execute 93 = .ok (.putfield 34, 3) := by decide +kernel
theorem dX9_execute_96 : decode cX9_execute 96 = .ok (.aload_n 0, 1) := by decide +kernel
theorem dX9_execute_97 : decode cX9_execute 97 = .ok (.iconst 1, 1) := by decide +kernel
theorem dX9_execute_98 : decode cX9_execute 98 = .ok (.invokevirtual 54, 3) := by decide +kernel
theorem dX9_execute_101 : decode cX9_execute 101 = .ok (.ireturn, 1) := by decide +kernel
theorem dX9_execute_102 : decode cX9_execute 102 = .ok (.iconst 0, 1) := by decide +kernel
theorem dX9_execute_103 : decode cX9_execute 103 = .ok (.istore_n 1, 1) := by decide +kernel
theorem dX9_execute_104 : decode cX9_execute 104 = .ok (.iload_n 1, 1) := by decide +kernel
theorem dX9_execute_105 : decode cX9_execute 105 = .ok (.aload_n 0, 1) := by decide +kernel
theorem dX9_execute_106 : decode cX9_execute 106 = .ok (.getfield 242, 3) := by decide +kernel
theorem dX9_execute_109 : decode cX9_execute 109 = .ok (.if_icmp .ge 80, 3) := by decide +kernel
theorem dX9_execute_112 : decode cX9_execute 112 = .ok (.aload_n 0, 1) := by decide +kernel
theorem dX9_execute_113 : decode cX9_execute 113 = .ok (.iload_n 1, 1) := by decide +kernel
theorem dX9_execute_114 : decode cX9_execute 114 = .ok (.invokevirtual 271, 3) := by decide +kernel
theorem dX9_execute_117 : decode cX9_execute 117 = .ok (.istore_n 2, 1) := by decide +kernel
theorem dX9_execute_118 : decode cX9_execute 118 = .ok (.iload_n 2, 1) := by decide +kernel
theorem dX9_execute_119 : decode cX9_execute 119 = .ok (.ifCond .ne 6, 3) := by decide +kernel
theorem dX9_execute_122 : decode cX9_execute 122 = .ok (.goto 61, 3) := by decide +kernel
theorem dX9_execute_125 : decode cX9_execute 125 = .ok (.iconst 0, 1) := by decide +kernel
theorem dX9_execute_126 : decode cX9_execute 126 = .ok (.istore_n 3, 1) := by decide +kernel
theorem dX9_execute_127 : decode cX9_execute 127 = .ok (.iload_n 3, 1) := by decide +kernel
theorem dX9_execute_128 : decode cX9_execute 128 = .ok (.bipush 102, 2) := by decide +kernel
theorem dX9_execute_130 : decode cX9_execute 130 = .ok (.if_icmp .ge 21, 3) := by decide +kernel
theorem dX9_execute_133 : decode cX9_execute 133 = .ok (.aload_n 0, 1) := by decide +kernel
theorem dX9_execute_134 : decode cX9_execute 134 = .ok (.getfield 7, 3) := by decide +kernel
theorem dX9_execute_137 : decode cX9_execute 137 = .ok (.iload_n 3, 1) := by decide +kernel
theorem dX9_execute_138 : decode cX9_execute 138 = .ok (.aload_n 0, 1) := by decide +kernel
theorem dX9_execute_139 : decode cX9_execute 139 = .ok (.getfield 13, 3) := by decide +kernel
theorem dX9_execute_142 : decode cX9_execute 142 = .ok (.iload_n 3, 1) := by decide +kernel
theorem dX9_execute_143 : decode cX9_execute 143 = .ok (.iaload, 1) := by decide +kernel
theorem dX9_execute_144 : decode cX9_execute 144 = .ok (.iastore, 1) := by decide +kernel
theorem dX9_execute_145 : decode cX9_execute 145 = .ok (.iinc 3 1, 3) := by decide +kernel
theorem dX9_execute_148 : decode cX9_execute 148 = .ok (.goto (-21), 3) := by decide +kernel
theorem dX9_execute_151 : decode cX9_execute 151 = .ok (.iload_n 2, 1) := by decide +kernel
theorem dX9_execute_152 : decode cX9_execute 152 = .ok (.ifCond .ge 9, 3) := by decide +kernel
theorem dX9_execute_155 : decode cX9_execute 155 = .ok (.aload_n 0, 1) := by decide +kernel
theorem dX9_execute_156 : decode cX9_execute 156 = .ok (.iconst 2, 1) := by decide +kernel
theorem dX9_execute_157 : decode cX9_execute 157 = .ok (.invokevirtual 54, 3) := by decide +kernel
theorem dX9_execute_160 : decode cX9_execute 160 = .ok (.ireturn, 1) := by decide +kernel
theorem dX9_execute_161 : decode cX9_execute 161 = .ok (.aload_n 0, 1) := by decide +kernel
theorem dX9_execute_162 : decode cX9_execute 162 = .ok (.bipush 12, 2) := by decide +kernel
theorem dX9_execute_164 : decode cX9_execute 164 = .ok (.putfield 57, 3) := by decide +kernel
theorem dX9_execute_167 : decode cX9_execute 167 = .ok (.aload_n 0, 1) := by decide +kernel
theorem dX9_execute_168 : decode cX9_execute 168 = .ok (.iload_n 1, 1) := by decide +kernel
theorem dX9_execute_169 : decode cX9_execute 169 = .ok (.putfield 60, 3) := by decide +kernel
theorem dX9_execute_172 : decode cX9_execute 172 = .ok (.aload_n 0, 1) := by decide +kernel
theorem dX9_execute_173 : decode cX9_execute 173 = .ok (.iload_n 2, 1) := by decide +kernel
theorem dX9_execute_174 : decode cX9_execute 174 = .ok (.putfield 63, 3) := by decide +kernel
theorem dX9_execute_177 : decode cX9_execute 177 = .ok (.aload_n 0, 1) := by decide +kernel
theorem dX9_execute_178 : decode cX9_execute 178 = .ok (.iconst 3, 1) := by decide +kernel
theorem dX9_execute_179 : decode cX9_execute 179 = .ok (.invokevirtual 54, 3) := by decide +kernel
theorem dX9_execute_182 : decode cX9_execute 182 = .ok (.ireturn, 1) := by decide +kernel
theorem dX9_execute_183 : decode cX9_execute 183 = .ok (.iinc 1 1, 3) := by decide +kernel
theorem dX9_execute_186 : decode cX9_execute 186 = .ok (.goto (-82), 3) := by decide +kernel
theorem dX9_execute_189 : decode cX9_execute 189 = .ok (.aload_n 0, 1) := by decide +kernel
theorem dX9_execute_190 : decode cX9_execute 190 = .ok (.aload_n 0, 1) := by decide +kernel
theorem dX9_execute_191 : decode cX9_execute 191 = .ok (.getfield 242, 3) := by decide +kernel
theorem dX9_execute_194 : decode cX9_execute 194 = .ok (.invokevirtual 50, 3) := by decide +kernel
theorem dX9_execute_197 : decode cX9_execute 197 = .ok (.ireturn, 1) := by decide +kernel
theorem dX9_syntaxErrorOffset_0 : decode cX9_syntaxErrorOffset 0 = .ok (.aload_n 0, 1) := by decide +kernel
theorem dX9_syntaxErrorOffset_1 : decode cX9_syntaxErrorOffset 1 = .ok (.iconst 0, 1) := by decide +kernel
theorem dX9_syntaxErrorOffset_2 : decode cX9_syntaxErrorOffset 2 = .ok (.putfield 38, 3) := by decide +kernel
theorem dX9_syntaxErrorOffset_5 : decode cX9_syntaxErrorOffset 5 = .ok (.aload_n 0, 1) := by decide +kernel
theorem dX9_syntaxErrorOffset_6 : decode cX9_syntaxErrorOffset 6 = .ok (.getfield 34, 3) := by decide +kernel
theorem dX9_syntaxErrorOffset_9 : decode cX9_syntaxErrorOffset 9 = .ok (.iconst (-1), 1) := by decide +kernel
theorem dX9_syntaxErrorOffset_10 : decode cX9_syntaxErrorOffset 10 = .ok (.if_icmp .ne 11, 3) := by decide +kernel
theorem dX9_syntaxErrorOffset_13 : decode cX9_syntaxErrorOffset 13 = .ok (.aload_n 0, 1) := by decide +kernel
theorem dX9_syntaxErrorOffset_14 : decode cX9_syntaxErrorOffset 14 = .ok (.iconst 1, 1) := by decide +kernel
theorem dX9_syntaxErrorOffset_15 : decode cX9_syntaxErrorOffset 15 = .ok (.invokevirtual 54, 3) := by decide +kernel
theorem dX9_syntaxErrorOffset_18 : decode cX9_syntaxErrorOffset 18 = .ok (.goto 7, 3) := by decide +kernel
theorem dX9_syntaxErrorOffset_21 : decode cX9_syntaxErrorOffset 21 = .ok (.aload_n 0, 1) := by decide +kernel
theorem dX9_syntaxErrorOffset_22 : decode cX9_syntaxErrorOffset 22 = .ok (.getfield 34, 3) := by decide +kernel
theorem dX9_syntaxErrorOffset_25 : decode cX9_syntaxErrorOffset 25 = .ok (.ireturn, 1) := by decide +kernel
theorem dX9_rejectionReason_0 : decode cX9_rejectionReason 0 = .ok (.aload_n 0, 1) := by decide +kernel
theorem dX9_rejectionReason_1 : decode cX9_rejectionReason 1 = .ok (.aload_n 0, 1) := by decide +kernel
theorem dX9_rejectionReason_2 : decode cX9_rejectionReason 2 = .ok (.getfield 57, 3) := by decide +kernel
theorem dX9_rejectionReason_5 : decode cX9_rejectionReason 5 = .ok (.ifCond .ne 7, 3) := by decide +kernel
theorem dX9_rejectionReason_8 : decode cX9_rejectionReason 8 = .ok (.iconst 1, 1) := by decide +kernel
theorem dX9_rejectionReason_9 : decode cX9_rejectionReason 9 = .ok (.goto 4, 3) := by decide +kernel
theorem dX9_rejectionReason_12 : decode cX9_rejectionReason 12 = .ok (.iconst 0, 1) := by decide +kernel
theorem dX9_rejectionReason_13 : decode cX9_rejectionReason 13 = .ok (.putfield 38, 3) := by decide +kernel
theorem dX9_rejectionReason_16 : decode cX9_rejectionReason 16 = .ok (.aload_n 0, 1) := by decide +kernel
theorem dX9_rejectionReason_17 : decode cX9_rejectionReason 17 = .ok (.getfield 57, 3) := by decide +kernel
theorem dX9_rejectionReason_20 : decode cX9_rejectionReason 20 = .ok (.ireturn, 1) := by decide +kernel
theorem dX9_rejectionDetail_0 : decode cX9_rejectionDetail 0 = .ok (.aload_n 0, 1) := by decide +kernel
theorem dX9_rejectionDetail_1 : decode cX9_rejectionDetail 1 = .ok (.aload_n 0, 1) := by decide +kernel
theorem dX9_rejectionDetail_2 : decode cX9_rejectionDetail 2 = .ok (.getfield 57, 3) := by decide +kernel
theorem dX9_rejectionDetail_5 : decode cX9_rejectionDetail 5 = .ok (.ifCond .ne 7, 3) := by decide +kernel
theorem dX9_rejectionDetail_8 : decode cX9_rejectionDetail 8 = .ok (.iconst 1, 1) := by decide +kernel
theorem dX9_rejectionDetail_9 : decode cX9_rejectionDetail 9 = .ok (.goto 4, 3) := by decide +kernel
theorem dX9_rejectionDetail_12 : decode cX9_rejectionDetail 12 = .ok (.iconst 0, 1) := by decide +kernel
theorem dX9_rejectionDetail_13 : decode cX9_rejectionDetail 13 = .ok (.putfield 38, 3) := by decide +kernel
theorem dX9_rejectionDetail_16 : decode cX9_rejectionDetail 16 = .ok (.aload_n 0, 1) := by decide +kernel
theorem dX9_rejectionDetail_17 : decode cX9_rejectionDetail 17 = .ok (.getfield 38, 3) := by decide +kernel
theorem dX9_rejectionDetail_20 : decode cX9_rejectionDetail 20 = .ok (.ifCond .le 7, 3) := by decide +kernel
theorem dX9_rejectionDetail_23 : decode cX9_rejectionDetail 23 = .ok (.iconst 0, 1) := by decide +kernel
theorem dX9_rejectionDetail_24 : decode cX9_rejectionDetail 24 = .ok (.goto 7, 3) := by decide +kernel
theorem dX9_rejectionDetail_27 : decode cX9_rejectionDetail 27 = .ok (.aload_n 0, 1) := by decide +kernel
theorem dX9_rejectionDetail_28 : decode cX9_rejectionDetail 28 = .ok (.getfield 60, 3) := by decide +kernel
theorem dX9_rejectionDetail_31 : decode cX9_rejectionDetail 31 = .ok (.ireturn, 1) := by decide +kernel
theorem dX9_causeReason_0 : decode cX9_causeReason 0 = .ok (.aload_n 0, 1) := by decide +kernel
theorem dX9_causeReason_1 : decode cX9_causeReason 1 = .ok (.aload_n 0, 1) := by decide +kernel
theorem dX9_causeReason_2 : decode cX9_causeReason 2 = .ok (.getfield 57, 3) := by decide +kernel
theorem dX9_causeReason_5 : decode cX9_causeReason 5 = .ok (.bipush 12, 2) := by decide +kernel
theorem dX9_causeReason_7 : decode cX9_causeReason 7 = .ok (.if_icmp .ne 7, 3) := by decide +kernel
theorem dX9_causeReason_10 : decode cX9_causeReason 10 = .ok (.iconst 0, 1) := by decide +kernel
theorem dX9_causeReason_11 : decode cX9_causeReason 11 = .ok (.goto 4, 3) := by decide +kernel
theorem dX9_causeReason_14 : decode cX9_causeReason 14 = .ok (.iconst 1, 1) := by decide +kernel
theorem dX9_causeReason_15 : decode cX9_causeReason 15 = .ok (.putfield 38, 3) := by decide +kernel
theorem dX9_causeReason_18 : decode cX9_causeReason 18 = .ok (.aload_n 0, 1) := by decide +kernel
theorem dX9_causeReason_19 : decode cX9_causeReason 19 = .ok (.getfield 38, 3) := by decide +kernel
theorem dX9_causeReason_22 : decode cX9_causeReason 22 = .ok (.ifCond .le 7, 3) := by decide +kernel
theorem dX9_causeReason_25 : decode cX9_causeReason 25 = .ok (.iconst 0, 1) := by decide +kernel
theorem dX9_causeReason_26 : decode cX9_causeReason 26 = .ok (.goto 7, 3) := by decide +kernel
theorem dX9_causeReason_29 : decode cX9_causeReason 29 = .ok (.aload_n 0, 1) := by decide +kernel
theorem dX9_causeReason_30 : decode cX9_causeReason 30 = .ok (.getfield 63, 3) := by decide +kernel
theorem dX9_causeReason_33 : decode cX9_causeReason 33 = .ok (.ireturn, 1) := by decide +kernel
theorem dX9_undo_0 : decode cX9_undo 0 = .ok (.aload_n 0, 1) := by decide +kernel
theorem dX9_undo_1 : decode cX9_undo 1 = .ok (.iconst 0, 1) := by decide +kernel
theorem dX9_undo_2 : decode cX9_undo 2 = .ok (.putfield 38, 3) := by decide +kernel
theorem dX9_undo_5 : decode cX9_undo 5 = .ok (.aload_n 0, 1) := by decide +kernel
theorem dX9_undo_6 : decode cX9_undo 6 = .ok (.getfield 41, 3) := by decide +kernel
theorem dX9_undo_9 : decode cX9_undo 9 = .ok (.ifCond .ne 9, 3) := by decide +kernel
theorem dX9_undo_12 : decode cX9_undo 12 = .ok (.aload_n 0, 1) := by decide +kernel
theorem dX9_undo_13 : decode cX9_undo 13 = .ok (.iconst 1, 1) := by decide +kernel
theorem dX9_undo_14 : decode cX9_undo 14 = .ok (.invokevirtual 54, 3) := by decide +kernel
theorem dX9_undo_17 : decode cX9_undo 17 = .ok (.ireturn, 1) := by decide +kernel
theorem dX9_undo_18 : decode cX9_undo 18 = .ok (.aload_n 0, 1) := by decide +kernel
theorem dX9_undo_19 : decode cX9_undo 19 = .ok (.dup, 1) := by decide +kernel
theorem dX9_undo_20 : decode cX9_undo 20 = .ok (.getfield 41, 3) := by decide +kernel
theorem dX9_undo_23 : decode cX9_undo 23 = .ok (.iconst 1, 1) := by decide +kernel
theorem dX9_undo_24 : decode cX9_undo 24 = .ok (.isub, 1) := by decide +kernel
theorem dX9_undo_25 : decode cX9_undo 25 = .ok (.putfield 41, 3) := by decide +kernel
theorem dX9_undo_28 : decode cX9_undo 28 = .ok (.iconst 0, 1) := by decide +kernel
theorem dX9_undo_29 : decode cX9_undo 29 = .ok (.istore_n 1, 1) := by decide +kernel
theorem dX9_undo_30 : decode cX9_undo 30 = .ok (.iload_n 1, 1) := by decide +kernel
theorem dX9_undo_31 : decode cX9_undo 31 = .ok (.bipush 102, 2) := by decide +kernel
theorem dX9_undo_33 : decode cX9_undo 33 = .ok (.if_icmp .ge 29, 3) := by decide +kernel
theorem dX9_undo_36 : decode cX9_undo 36 = .ok (.aload_n 0, 1) := by decide +kernel
theorem dX9_undo_37 : decode cX9_undo 37 = .ok (.getfield 7, 3) := by decide +kernel
theorem dX9_undo_40 : decode cX9_undo 40 = .ok (.iload_n 1, 1) := by decide +kernel
theorem dX9_undo_41 : decode cX9_undo 41 = .ok (.aload_n 0, 1) := by decide +kernel
theorem dX9_undo_42 : decode cX9_undo 42 = .ok (.getfield 19, 3) := by decide +kernel
theorem dX9_undo_45 : decode cX9_undo 45 = .ok (.bipush 102, 2) := by decide +kernel
theorem dX9_undo_47 : decode cX9_undo 47 = .ok (.aload_n 0, 1) := by decide +kernel
theorem dX9_undo_48 : decode cX9_undo 48 = .ok (.getfield 41, 3) := by decide +kernel
theorem dX9_undo_51 : decode cX9_undo 51 = .ok (.imul, 1) := by decide +kernel
theorem dX9_undo_52 : decode cX9_undo 52 = .ok (.iload_n 1, 1) := by decide +kernel
theorem dX9_undo_53 : decode cX9_undo 53 = .ok (.iadd, 1) := by decide +kernel
theorem dX9_undo_54 : decode cX9_undo 54 = .ok (.iaload, 1) := by decide +kernel
theorem dX9_undo_55 : decode cX9_undo 55 = .ok (.iastore, 1) := by decide +kernel
theorem dX9_undo_56 : decode cX9_undo 56 = .ok (.iinc 1 1, 3) := by decide +kernel
theorem dX9_undo_59 : decode cX9_undo 59 = .ok (.goto (-29), 3) := by decide +kernel
theorem dX9_undo_62 : decode cX9_undo 62 = .ok (.aload_n 0, 1) := by decide +kernel
theorem dX9_undo_63 : decode cX9_undo 63 = .ok (.getfield 41, 3) := by decide +kernel
theorem dX9_undo_66 : decode cX9_undo 66 = .ok (.ireturn, 1) := by decide +kernel
theorem dX9_saveSnapshot_0 : decode cX9_saveSnapshot 0 = .ok (.aload_n 0, 1) := by decide +kernel
theorem dX9_saveSnapshot_1 : decode cX9_saveSnapshot 1 = .ok (.iconst 0, 1) := by decide +kernel
theorem dX9_saveSnapshot_2 : decode cX9_saveSnapshot 2 = .ok (.putfield 38, 3) := by decide +kernel
theorem dX9_saveSnapshot_5 : decode cX9_saveSnapshot 5 = .ok (.iconst 0, 1) := by decide +kernel
theorem dX9_saveSnapshot_6 : decode cX9_saveSnapshot 6 = .ok (.istore_n 1, 1) := by decide +kernel
theorem dX9_saveSnapshot_7 : decode cX9_saveSnapshot 7 = .ok (.iload_n 1, 1) := by decide +kernel
theorem dX9_saveSnapshot_8 : decode cX9_saveSnapshot 8 = .ok (.bipush 102, 2) := by decide +kernel
theorem dX9_saveSnapshot_10 : decode cX9_saveSnapshot 10 = .ok (.if_icmp .ge 21, 3) := by decide +kernel
theorem dX9_saveSnapshot_13 : decode cX9_saveSnapshot 13 = .ok (.aload_n 0, 1) := by decide +kernel
theorem dX9_saveSnapshot_14 : decode cX9_saveSnapshot 14 = .ok (.getfield 16, 3) := by decide +kernel
theorem dX9_saveSnapshot_17 : decode cX9_saveSnapshot 17 = .ok (.iload_n 1, 1) := by decide +kernel
theorem dX9_saveSnapshot_18 : decode cX9_saveSnapshot 18 = .ok (.aload_n 0, 1) := by decide +kernel
theorem dX9_saveSnapshot_19 : decode cX9_saveSnapshot 19 = .ok (.getfield 7, 3) := by decide +kernel
theorem dX9_saveSnapshot_22 : decode cX9_saveSnapshot 22 = .ok (.iload_n 1, 1) := by decide +kernel
theorem dX9_saveSnapshot_23 : decode cX9_saveSnapshot 23 = .ok (.iaload, 1) := by decide +kernel
theorem dX9_saveSnapshot_24 : decode cX9_saveSnapshot 24 = .ok (.iastore, 1) := by decide +kernel
theorem dX9_saveSnapshot_25 : decode cX9_saveSnapshot 25 = .ok (.iinc 1 1, 3) := by decide +kernel
theorem dX9_saveSnapshot_28 : decode cX9_saveSnapshot 28 = .ok (.goto (-21), 3) := by decide +kernel
theorem dX9_saveSnapshot_31 : decode cX9_saveSnapshot 31 = .ok (.aload_n 0, 1) := by decide +kernel
theorem dX9_saveSnapshot_32 : decode cX9_saveSnapshot 32 = .ok (.iconst 1, 1) := by decide +kernel
theorem dX9_saveSnapshot_33 : decode cX9_saveSnapshot 33 = .ok (.putfield 274, 3) := by decide +kernel
theorem dX9_saveSnapshot_36 : decode cX9_saveSnapshot 36 = .ok (.aload_n 0, 1) := by decide +kernel
theorem dX9_saveSnapshot_37 : decode cX9_saveSnapshot 37 = .ok (.getfield 7, 3) := by decide +kernel
theorem dX9_saveSnapshot_40 : decode cX9_saveSnapshot 40 = .ok (.iconst 0, 1) := by decide +kernel
theorem dX9_saveSnapshot_41 : decode cX9_saveSnapshot 41 = .ok (.iaload, 1) := by decide +kernel
theorem dX9_saveSnapshot_42 : decode cX9_saveSnapshot 42 = .ok (.ireturn, 1) := by decide +kernel
theorem dX9_restoreSnapshot_0 : decode cX9_restoreSnapshot 0 = .ok (.aload_n 0, 1) := by decide +kernel
theorem dX9_restoreSnapshot_1 : decode cX9_restoreSnapshot 1 = .ok (.iconst 0, 1) := by decide +kernel
theorem dX9_restoreSnapshot_2 : decode cX9_restoreSnapshot 2 = .ok (.putfield 38, 3) := by decide +kernel
theorem dX9_restoreSnapshot_5 : decode cX9_restoreSnapshot 5 = .ok (.aload_n 0, 1) := by decide +kernel
theorem dX9_restoreSnapshot_6 : decode cX9_restoreSnapshot 6 = .ok (.getfield 274, 3) := by decide +kernel
theorem dX9_restoreSnapshot_9 : decode cX9_restoreSnapshot 9 = .ok (.ifCond .ne 9, 3) := by decide +kernel
theorem dX9_restoreSnapshot_12 : decode cX9_restoreSnapshot 12 = .ok (.aload_n 0, 1) := by decide +kernel
theorem dX9_restoreSnapshot_13 : decode cX9_restoreSnapshot 13 = .ok (.iconst 1, 1) := by decide +kernel
theorem dX9_restoreSnapshot_14 : decode cX9_restoreSnapshot 14 = .ok (.invokevirtual 54, 3) := by decide +kernel
theorem dX9_restoreSnapshot_17 : decode cX9_restoreSnapshot 17 = .ok (.ireturn, 1) := by decide +kernel
theorem dX9_restoreSnapshot_18 : decode cX9_restoreSnapshot 18 = .ok (.iconst 0, 1) := by decide +kernel
theorem dX9_restoreSnapshot_19 : decode cX9_restoreSnapshot 19 = .ok (.istore_n 1, 1) := by decide +kernel
theorem dX9_restoreSnapshot_20 : decode cX9_restoreSnapshot 20 = .ok (.iload_n 1, 1) := by decide +kernel
theorem dX9_restoreSnapshot_21 : decode cX9_restoreSnapshot 21 = .ok (.bipush 102, 2) := by decide +kernel
theorem dX9_restoreSnapshot_23 : decode cX9_restoreSnapshot 23 = .ok (.if_icmp .ge 21, 3) := by decide +kernel
theorem dX9_restoreSnapshot_26 : decode cX9_restoreSnapshot 26 = .ok (.aload_n 0, 1) := by decide +kernel
theorem dX9_restoreSnapshot_27 : decode cX9_restoreSnapshot 27 = .ok (.getfield 7, 3) := by decide +kernel
theorem dX9_restoreSnapshot_30 : decode cX9_restoreSnapshot 30 = .ok (.iload_n 1, 1) := by decide +kernel
theorem dX9_restoreSnapshot_31 : decode cX9_restoreSnapshot 31 = .ok (.aload_n 0, 1) := by decide +kernel
theorem dX9_restoreSnapshot_32 : decode cX9_restoreSnapshot 32 = .ok (.getfield 16, 3) := by decide +kernel
theorem dX9_restoreSnapshot_35 : decode cX9_restoreSnapshot 35 = .ok (.iload_n 1, 1) := by decide +kernel
theorem dX9_restoreSnapshot_36 : decode cX9_restoreSnapshot 36 = .ok (.iaload, 1) := by decide +kernel
theorem dX9_restoreSnapshot_37 : decode cX9_restoreSnapshot 37 = .ok (.iastore, 1) := by decide +kernel
theorem dX9_restoreSnapshot_38 : decode cX9_restoreSnapshot 38 = .ok (.iinc 1 1, 3) := by decide +kernel
theorem dX9_restoreSnapshot_41 : decode cX9_restoreSnapshot 41 = .ok (.goto (-21), 3) := by decide +kernel
theorem dX9_restoreSnapshot_44 : decode cX9_restoreSnapshot 44 = .ok (.aload_n 0, 1) := by decide +kernel
theorem dX9_restoreSnapshot_45 : decode cX9_restoreSnapshot 45 = .ok (.iconst 0, 1) := by decide +kernel
theorem dX9_restoreSnapshot_46 : decode cX9_restoreSnapshot 46 = .ok (.putfield 41, 3) := by decide +kernel
theorem dX9_restoreSnapshot_49 : decode cX9_restoreSnapshot 49 = .ok (.aload_n 0, 1) := by decide +kernel
theorem dX9_restoreSnapshot_50 : decode cX9_restoreSnapshot 50 = .ok (.getfield 7, 3) := by decide +kernel
theorem dX9_restoreSnapshot_53 : decode cX9_restoreSnapshot 53 = .ok (.iconst 0, 1) := by decide +kernel
theorem dX9_restoreSnapshot_54 : decode cX9_restoreSnapshot 54 = .ok (.iaload, 1) := by decide +kernel
theorem dX9_restoreSnapshot_55 : decode cX9_restoreSnapshot 55 = .ok (.ireturn, 1) := by decide +kernel
