theorem dX1_init_0 : decode cX1_init 0 = .ok (.aload_n 0, 1) := by decide +kernel
theorem dX1_init_1 : decode cX1_init 1 = .ok (.invokespecial 3, 3) := by decide +kernel
theorem dX1_init_4 : decode cX1_init 4 = .ok (.aload_n 0, 1) := by decide +kernel
theorem dX1_init_5 : decode cX1_init 5 = .ok (.new 9, 3) := by decide +kernel
theorem dX1_init_8 : decode cX1_init 8 = .ok (.dup, 1) := by decide +kernel
theorem dX1_init_9 : decode cX1_init 9 = .ok (.invokespecial 11, 3) := by decide +kernel
theorem dX1_init_12 : decode cX1_init 12 = .ok (.putfield 12, 3) := by decide +kernel
theorem dX1_init_15 : decode cX1_init 15 = .ok (.aload_n 0, 1) := by decide +kernel
theorem dX1_init_16 : decode cX1_init 16 = .ok (.iconst 0, 1) := by decide +kernel
theorem dX1_init_17 : decode cX1_init 17 = .ok (.putfield 18, 3) := by decide +kernel
theorem dX1_init_20 : decode cX1_init 20 = .ok (.aload_n 0, 1) := by decide +kernel
theorem dX1_init_21 : decode cX1_init 21 = .ok (.bipush 8, 2) := by decide +kernel
theorem dX1_init_23 : decode cX1_init 23 = .ok (.newarray .int, 2) := by decide +kernel
theorem dX1_init_25 : decode cX1_init 25 = .ok (.putfield 22, 3) := by decide +kernel
theorem dX1_init_28 : decode cX1_init 28 = .ok (.aload_n 0, 1) := by decide +kernel
theorem dX1_init_29 : decode cX1_init 29 = .ok (.bipush 8, 2) := by decide +kernel
theorem dX1_init_31 : decode cX1_init 31 = .ok (.newarray .int, 2) := by decide +kernel
theorem dX1_init_33 : decode cX1_init 33 = .ok (.putfield 26, 3) := by decide +kernel
theorem dX1_init_36 : decode cX1_init 36 = .ok (.aload_n 0, 1) := by decide +kernel
theorem dX1_init_37 : decode cX1_init 37 = .ok (.bipush 10, 2) := by decide +kernel
theorem dX1_init_39 : decode cX1_init 39 = .ok (.newarray .int, 2) := by decide +kernel
theorem dX1_init_41 : decode cX1_init 41 = .ok (.putfield 29, 3) := by decide +kernel
theorem dX1_init_44 : decode cX1_init 44 = .ok (.aload_n 0, 1) := by decide +kernel
theorem dX1_init_45 : decode cX1_init 45 = .ok (.bipush 10, 2) := by decide +kernel
theorem dX1_init_47 : decode cX1_init 47 = .ok (.newarray .int, 2) := by decide +kernel
theorem dX1_init_49 : decode cX1_init 49 = .ok (.putfield 32, 3) := by decide +kernel
theorem dX1_init_52 : decode cX1_init 52 = .ok (.aload_n 0, 1) := by decide +kernel
theorem dX1_init_53 : decode cX1_init 53 = .ok (.bipush 10, 2) := by decide +kernel
theorem dX1_init_55 : decode cX1_init 55 = .ok (.newarray .int, 2) := by decide +kernel
theorem dX1_init_57 : decode cX1_init 57 = .ok (.putfield 35, 3) := by decide +kernel
theorem dX1_init_60 : decode cX1_init 60 = .ok (.aload_n 0, 1) := by decide +kernel
theorem dX1_init_61 : decode cX1_init 61 = .ok (.iconst 0, 1) := by decide +kernel
theorem dX1_init_62 : decode cX1_init 62 = .ok (.putfield 38, 3) := by decide +kernel
theorem dX1_init_65 : decode cX1_init 65 = .ok (.aload_n 0, 1) := by decide +kernel
theorem dX1_init_66 : decode cX1_init 66 = .ok (.iconst 0, 1) := by decide +kernel
theorem dX1_init_67 : decode cX1_init 67 = .ok (.putfield 41, 3) := by decide +kernel
theorem dX1_init_70 : decode cX1_init 70 = .ok (.aload_n 0, 1) := by decide +kernel
theorem dX1_init_71 : decode cX1_init 71 = .ok (.iconst 0, 1) := by decide +kernel
theorem dX1_init_72 : decode cX1_init 72 = .ok (.putfield 44, 3) := by decide +kernel
theorem dX1_init_75 : decode cX1_init 75 = .ok (.aload_n 0, 1) := by decide +kernel
theorem dX1_init_76 : decode cX1_init 76 = .ok (.iconst 0, 1) := by decide +kernel
theorem dX1_init_77 : decode cX1_init 77 = .ok (.putfield 47, 3) := by decide +kernel
theorem dX1_init_80 : decode cX1_init 80 = .ok (.aload_n 0, 1) := by decide +kernel
theorem dX1_init_81 : decode cX1_init 81 = .ok (.iconst 0, 1) := by decide +kernel
theorem dX1_init_82 : decode cX1_init 82 = .ok (.putfield 50, 3) := by decide +kernel
theorem dX1_init_85 : decode cX1_init 85 = .ok (.aload_n 0, 1) := by decide +kernel
theorem dX1_init_86 : decode cX1_init 86 = .ok (.iconst 0, 1) := by decide +kernel
theorem dX1_init_87 : decode cX1_init 87 = .ok (.putfield 53, 3) := by decide +kernel
theorem dX1_init_90 : decode cX1_init 90 = .ok (.aload_n 0, 1) := by decide +kernel
theorem dX1_init_91 : decode cX1_init 91 = .ok (.getfield 29, 3) := by decide +kernel
theorem dX1_init_94 : decode cX1_init 94 = .ok (.iconst (-1), 1) := by decide +kernel
theorem dX1_init_95 : decode cX1_init 95 = .ok (.invokestatic 56, 3) := by decide +kernel
theorem dX1_init_98 : decode cX1_init 98 = .ok (.return_, 1) := by decide +kernel
theorem dX1_isTerm_0 : decode cX1_isTerm 0 = .ok (.iload_n 0, 1) := by decide +kernel
theorem dX1_isTerm_1 : decode cX1_isTerm 1 = .ok (.iconst 1, 1) := by decide +kernel
theorem dX1_isTerm_2 : decode cX1_isTerm 2 = .ok (.if_icmp .lt 13, 3) := by decide +kernel
theorem dX1_isTerm_5 : decode cX1_isTerm 5 = .ok (.iload_n 0, 1) := by decide +kernel
theorem dX1_isTerm_6 : decode cX1_isTerm 6 = .ok (.bipush 12, 2) := by decide +kernel
theorem dX1_isTerm_8 : decode cX1_isTerm 8 = .ok (.if_icmp .gt 7, 3) := by decide +kernel
theorem dX1_isTerm_11 : decode cX1_isTerm 11 = .ok (.iconst 1, 1) := by decide +kernel
theorem dX1_isTerm_12 : decode cX1_isTerm 12 = .ok (.goto 4, 3) := by decide +kernel
theorem dX1_isTerm_15 : decode cX1_isTerm 15 = .ok (.iconst 0, 1) := by decide +kernel
theorem dX1_isTerm_16 : decode cX1_isTerm 16 = .ok (.ireturn, 1) := by decide +kernel
theorem dX1_hasTenant_0 : decode cX1_hasTenant 0 = .ok (.iload_n 1, 1) := by decide +kernel
theorem dX1_hasTenant_1 : decode cX1_hasTenant 1 = .ok (.ifCond .lt 15, 3) := by decide +kernel
theorem dX1_hasTenant_4 : decode cX1_hasTenant 4 = .ok (.iload_n 1, 1) := by decide +kernel
theorem dX1_hasTenant_5 : decode cX1_hasTenant 5 = .ok (.aload_n 0, 1) := by decide +kernel
theorem dX1_hasTenant_6 : decode cX1_hasTenant 6 = .ok (.getfield 18, 3) := by decide +kernel
theorem dX1_hasTenant_9 : decode cX1_hasTenant 9 = .ok (.if_icmp .ge 7, 3) := by decide +kernel
theorem dX1_hasTenant_12 : decode cX1_hasTenant 12 = .ok (.iconst 1, 1) := by decide +kernel
theorem dX1_hasTenant_13 : decode cX1_hasTenant 13 = .ok (.goto 4, 3) := by decide +kernel
theorem dX1_hasTenant_16 : decode cX1_hasTenant 16 = .ok (.iconst 0, 1) := by decide +kernel
theorem dX1_hasTenant_17 : decode cX1_hasTenant 17 = .ok (.ireturn, 1) := by decide +kernel
theorem dX1_leased_0 : decode cX1_leased 0 = .ok (.aload_n 0, 1) := by decide +kernel
theorem dX1_leased_1 : decode cX1_leased 1 = .ok (.aload_n 0, 1) := by decide +kernel
theorem dX1_leased_2 : decode cX1_leased 2 = .ok (.getfield 29, 3) := by decide +kernel
theorem dX1_leased_5 : decode cX1_leased 5 = .ok (.iload_n 1, 1) := by decide +kernel
theorem dX1_leased_6 : decode cX1_leased 6 = .ok (.iaload, 1) := by decide +kernel
theorem dX1_leased_7 : decode cX1_leased 7 = .ok (.invokevirtual 62, 3) := by decide +kernel
theorem dX1_leased_10 : decode cX1_leased 10 = .ok (.ireturn, 1) := by decide +kernel
theorem dX1_leasedBench_0 : decode cX1_leasedBench 0 = .ok (.iconst 0, 1) := by decide +kernel
theorem dX1_leasedBench_1 : decode cX1_leasedBench 1 = .ok (.istore_n 2, 1) := by decide +kernel
theorem dX1_leasedBench_2 : decode cX1_leasedBench 2 = .ok (.iload_n 2, 1) := by decide +kernel
theorem dX1_leasedBench_3 : decode cX1_leasedBench 3 = .ok (.aload_n 0, 1) := by decide +kernel
theorem dX1_leasedBench_4 : decode cX1_leasedBench 4 = .ok (.getfield 12, 3) := by decide +kernel
theorem dX1_leasedBench_7 : decode cX1_leasedBench 7 = .ok (.getfield 66, 3) := by decide +kernel
theorem dX1_leasedBench_10 : decode cX1_leasedBench 10 = .ok (.if_icmp .ge 21, 3) := by decide +kernel
theorem dX1_leasedBench_13 : decode cX1_leasedBench 13 = .ok (.aload_n 0, 1) := by decide +kernel
theorem dX1_leasedBench_14 : decode cX1_leasedBench 14 = .ok (.getfield 29, 3) := by decide +kernel
theorem dX1_leasedBench_17 : decode cX1_leasedBench 17 = .ok (.iload_n 2, 1) := by decide +kernel
theorem dX1_leasedBench_18 : decode cX1_leasedBench 18 = .ok (.iaload, 1) := by decide +kernel
theorem dX1_leasedBench_19 : decode cX1_leasedBench 19 = .ok (.iload_n 1, 1) := by decide +kernel
theorem dX1_leasedBench_20 : decode cX1_leasedBench 20 = .ok (.if_icmp .ne 5, 3) := by decide +kernel
theorem dX1_leasedBench_23 : decode cX1_leasedBench 23 = .ok (.iload_n 2, 1) := by decide +kernel
theorem dX1_leasedBench_24 : decode cX1_leasedBench 24 = .ok (.ireturn, 1) := by decide +kernel
theorem dX1_leasedBench_25 : decode cX1_leasedBench 25 = .ok (.iinc 2 1, 3) := by decide +kernel
theorem dX1_leasedBench_28 : decode cX1_leasedBench 28 = .ok (.goto (-26), 3) := by decide +kernel
theorem dX1_leasedBench_31 : decode cX1_leasedBench 31 = .ok (.iconst (-1), 1) := by decide +kernel
theorem dX1_leasedBench_32 : decode cX1_leasedBench 32 = .ok (.ireturn, 1) := by decide +kernel
theorem dX1_enrol_0 : decode cX1_enrol 0 = .ok (.iload_n 1, 1) := by decide +kernel
theorem dX1_enrol_1 : decode cX1_enrol 1 = .ok (.ifCond .lt 9, 3) := by decide +kernel
theorem dX1_enrol_4 : decode cX1_enrol 4 = .ok (.iload_n 1, 1) := by decide +kernel
theorem dX1_enrol_5 : decode cX1_enrol 5 = .ok (.bipush 99, 2) := by decide +kernel
theorem dX1_enrol_7 : decode cX1_enrol 7 = .ok (.if_icmp .le 10, 3) := by decide +kernel
theorem dX1_enrol_10 : decode cX1_enrol 10 = .ok (.aload_n 2, 1) := by decide +kernel
theorem dX1_enrol_11 : decode cX1_enrol 11 = .ok (.invokevirtual 69, 3) := by decide +kernel
theorem dX1_enrol_14 : decode cX1_enrol 14 = .ok (.goto 72, 3) := by decide +kernel
theorem dX1_enrol_17 : decode cX1_enrol 17 = .ok (.aload_n 0, 1) := by decide +kernel
theorem dX1_enrol_18 : decode cX1_enrol 18 = .ok (.getfield 18, 3) := by decide +kernel
theorem dX1_enrol_21 : decode cX1_enrol 21 = .ok (.bipush 8, 2) := by decide +kernel
theorem dX1_enrol_23 : decode cX1_enrol 23 = .ok (.if_icmp .lt 13, 3) := by decide +kernel
theorem dX1_enrol_26 : decode cX1_enrol 26 = .ok (.aload_n 2, 1) := by decide +kernel
theorem dX1_enrol_27 : decode cX1_enrol 27 = .ok (.iconst 3, 1) := by decide +kernel
theorem dX1_enrol_28 : decode cX1_enrol 28 = .ok (.bipush 8, 2) := by decide +kernel
theorem dX1_enrol_30 : decode cX1_enrol 30 = .ok (.invokevirtual 74, 3) := by decide +kernel
theorem dX1_enrol_33 : decode cX1_enrol 33 = .ok (.goto 53, 3) := by decide +kernel
theorem dX1_enrol_36 : decode cX1_enrol 36 = .ok (.aload_n 0, 1) := by decide +kernel
theorem dX1_enrol_37 : decode cX1_enrol 37 = .ok (.getfield 22, 3) := by decide +kernel
theorem dX1_enrol_40 : decode cX1_enrol 40 = .ok (.aload_n 0, 1) := by decide +kernel
theorem dX1_enrol_41 : decode cX1_enrol 41 = .ok (.getfield 18, 3) := by decide +kernel
theorem dX1_enrol_44 : decode cX1_enrol 44 = .ok (.iload_n 1, 1) := by decide +kernel
theorem dX1_enrol_45 : decode cX1_enrol 45 = .ok (.iastore, 1) := by decide +kernel
theorem dX1_enrol_46 : decode cX1_enrol 46 = .ok (.aload_n 0, 1) := by decide +kernel
theorem dX1_enrol_47 : decode cX1_enrol 47 = .ok (.getfield 26, 3) := by decide +kernel
theorem dX1_enrol_50 : decode cX1_enrol 50 = .ok (.aload_n 0, 1) := by decide +kernel
theorem dX1_enrol_51 : decode cX1_enrol 51 = .ok (.getfield 18, 3) := by decide +kernel
theorem dX1_enrol_54 : decode cX1_enrol 54 = .ok (.iconst 0, 1) := by decide +kernel
theorem dX1_enrol_55 : decode cX1_enrol 55 = .ok (.iastore, 1) := by decide +kernel
theorem dX1_enrol_56 : decode cX1_enrol 56 = .ok (.aload_n 0, 1) := by decide +kernel
theorem dX1_enrol_57 : decode cX1_enrol 57 = .ok (.dup, 1) := by decide +kernel
theorem dX1_enrol_58 : decode cX1_enrol 58 = .ok (.getfield 44, 3) := by decide +kernel
theorem dX1_enrol_61 : decode cX1_enrol 61 = .ok (.iload_n 1, 1) := by decide +kernel
theorem dX1_enrol_62 : decode cX1_enrol 62 = .ok (.iadd, 1) := by decide +kernel
theorem dX1_enrol_63 : decode cX1_enrol 63 = .ok (.putfield 44, 3) := by decide +kernel
theorem dX1_enrol_66 : decode cX1_enrol 66 = .ok (.aload_n 0, 1) := by decide +kernel
theorem dX1_enrol_67 : decode cX1_enrol 67 = .ok (.dup, 1) := by decide +kernel
theorem dX1_enrol_68 : decode cX1_enrol 68 = .ok (.getfield 18, 3) := by decide +kernel
theorem dX1_enrol_71 : decode cX1_enrol 71 = .ok (.iconst 1, 1) := by decide +kernel
theorem dX1_enrol_72 : decode cX1_enrol 72 = .ok (.iadd, 1) := by decide +kernel
theorem dX1_enrol_73 : decode cX1_enrol 73 = .ok (.putfield 18, 3) := by decide +kernel
theorem dX1_enrol_76 : decode cX1_enrol 76 = .ok (.aload_n 2, 1) := by decide +kernel
theorem dX1_enrol_77 : decode cX1_enrol 77 = .ok (.aload_n 0, 1) := by decide +kernel
theorem dX1_enrol_78 : decode cX1_enrol 78 = .ok (.getfield 18, 3) := by decide +kernel
theorem dX1_enrol_81 : decode cX1_enrol 81 = .ok (.iconst 1, 1) := by decide +kernel
theorem dX1_enrol_82 : decode cX1_enrol 82 = .ok (.isub, 1) := by decide +kernel
theorem dX1_enrol_83 : decode cX1_enrol 83 = .ok (.invokevirtual 78, 3) := by decide +kernel
theorem dX1_enrol_86 : decode cX1_enrol 86 = .ok (.return_, 1) := by decide +kernel
theorem dX1_endow_0 : decode cX1_endow 0 = .ok (.aload_n 0, 1) := by decide +kernel
theorem dX1_endow_1 : decode cX1_endow 1 = .ok (.iload_n 1, 1) := by decide +kernel
theorem dX1_endow_2 : decode cX1_endow 2 = .ok (.invokevirtual 62, 3) := by decide +kernel
theorem dX1_endow_5 : decode cX1_endow 5 = .ok (.ifCond .ne 10, 3) := by decide +kernel
theorem dX1_endow_8 : decode cX1_endow 8 = .ok (.aload_n 3, 1) := by decide +kernel
theorem dX1_endow_9 : decode cX1_endow 9 = .ok (.invokevirtual 82, 3) := by decide +kernel
theorem dX1_endow_12 : decode cX1_endow 12 = .ok (.goto 51, 3) := by decide +kernel
theorem dX1_endow_15 : decode cX1_endow 15 = .ok (.iload_n 2, 1) := by decide +kernel
theorem dX1_endow_16 : decode cX1_endow 16 = .ok (.iconst 1, 1) := by decide +kernel
theorem dX1_endow_17 : decode cX1_endow 17 = .ok (.if_icmp .lt 9, 3) := by decide +kernel
theorem dX1_endow_20 : decode cX1_endow 20 = .ok (.iload_n 2, 1) := by decide +kernel
theorem dX1_endow_21 : decode cX1_endow 21 = .ok (.bipush 99, 2) := by decide +kernel
theorem dX1_endow_23 : decode cX1_endow 23 = .ok (.if_icmp .le 10, 3) := by decide +kernel
theorem dX1_endow_26 : decode cX1_endow 26 = .ok (.aload_n 3, 1) := by decide +kernel
theorem dX1_endow_27 : decode cX1_endow 27 = .ok (.invokevirtual 69, 3) := by decide +kernel
theorem dX1_endow_30 : decode cX1_endow 30 = .ok (.goto 33, 3) := by decide +kernel
theorem dX1_endow_33 : decode cX1_endow 33 = .ok (.aload_n 0, 1) := by decide +kernel
theorem dX1_endow_34 : decode cX1_endow 34 = .ok (.getfield 22, 3) := by decide +kernel
theorem dX1_endow_37 : decode cX1_endow 37 = .ok (.iload_n 1, 1) := by decide +kernel
theorem dX1_endow_38 : decode cX1_endow 38 = .ok (.dup2, 1) := by decide +kernel
theorem dX1_endow_39 : decode cX1_endow 39 = .ok (.iaload, 1) := by decide +kernel
theorem dX1_endow_40 : decode cX1_endow 40 = .ok (.iload_n 2, 1) := by decide +kernel
theorem dX1_endow_41 : decode cX1_endow 41 = .ok (.iadd, 1) := by decide +kernel
theorem dX1_endow_42 : decode cX1_endow 42 = .ok (.iastore, 1) := by decide +kernel
theorem dX1_endow_43 : decode cX1_endow 43 = .ok (.aload_n 0, 1) := by decide +kernel
theorem dX1_endow_44 : decode cX1_endow 44 = .ok (.dup, 1) := by decide +kernel
theorem dX1_endow_45 : decode cX1_endow 45 = .ok (.getfield 44, 3) := by decide +kernel
theorem dX1_endow_48 : decode cX1_endow 48 = .ok (.iload_n 2, 1) := by decide +kernel
theorem dX1_endow_49 : decode cX1_endow 49 = .ok (.iadd, 1) := by decide +kernel
theorem dX1_endow_50 : decode cX1_endow 50 = .ok (.putfield 44, 3) := by decide +kernel
theorem dX1_endow_53 : decode cX1_endow 53 = .ok (.aload_n 3, 1) := by decide +kernel
theorem dX1_endow_54 : decode cX1_endow 54 = .ok (.aload_n 0, 1) := by decide +kernel
theorem dX1_endow_55 : decode cX1_endow 55 = .ok (.getfield 22, 3) := by decide +kernel
theorem dX1_endow_58 : decode cX1_endow 58 = .ok (.iload_n 1, 1) := by decide +kernel
theorem dX1_endow_59 : decode cX1_endow 59 = .ok (.iaload, 1) := by decide +kernel
theorem dX1_endow_60 : decode cX1_endow 60 = .ok (.invokevirtual 78, 3) := by decide +kernel
theorem dX1_endow_63 : decode cX1_endow 63 = .ok (.return_, 1) := by decide +kernel
theorem dX1_leaseObstacle_0 : decode cX1_leaseObstacle 0 = .ok (.aload_n 0, 1) := by decide +kernel
theorem dX1_leaseObstacle_1 : decode cX1_leaseObstacle 1 = .ok (.getfield 26, 3) := by decide +kernel
theorem dX1_leaseObstacle_4 : decode cX1_leaseObstacle 4 = .ok (.iload_n 1, 1) := by decide +kernel
theorem dX1_leaseObstacle_5 : decode cX1_leaseObstacle 5 = .ok (.iaload, 1) := by decide +kernel
theorem dX1_leaseObstacle_6 : decode cX1_leaseObstacle 6 = .ok (.iconst 3, 1) := by decide +kernel
theorem dX1_leaseObstacle_7 : decode cX1_leaseObstacle 7 = .ok (.if_icmp .lt 5, 3) := by decide +kernel
theorem dX1_leaseObstacle_10 : decode cX1_leaseObstacle 10 = .ok (.iconst 5, 1) := by decide +kernel
theorem dX1_leaseObstacle_11 : decode cX1_leaseObstacle 11 = .ok (.ireturn, 1) := by decide +kernel
theorem dX1_leaseObstacle_12 : decode cX1_leaseObstacle 12 = .ok (.aload_n 0, 1) := by decide +kernel
theorem dX1_leaseObstacle_13 : decode cX1_leaseObstacle 13 = .ok (.iload_n 1, 1) := by decide +kernel
theorem dX1_leaseObstacle_14 : decode cX1_leaseObstacle 14 = .ok (.invokevirtual 85, 3) := by decide +kernel
theorem dX1_leaseObstacle_17 : decode cX1_leaseObstacle 17 = .ok (.iconst (-1), 1) := by decide +kernel
theorem dX1_leaseObstacle_18 : decode cX1_leaseObstacle 18 = .ok (.if_icmp .eq 6, 3) := by decide +kernel
theorem dX1_leaseObstacle_21 : decode cX1_leaseObstacle 21 = .ok (.bipush 6, 2) := by decide +kernel
theorem dX1_leaseObstacle_23 : decode cX1_leaseObstacle 23 = .ok (.ireturn, 1) := by decide +kernel
theorem dX1_leaseObstacle_24 : decode cX1_leaseObstacle 24 = .ok (.aload_n 0, 1) := by decide +kernel
theorem dX1_leaseObstacle_25 : decode cX1_leaseObstacle 25 = .ok (.iload_n 2, 1) := by decide +kernel
theorem dX1_leaseObstacle_26 : decode cX1_leaseObstacle 26 = .ok (.invokevirtual 89, 3) := by decide +kernel
theorem dX1_leaseObstacle_29 : decode cX1_leaseObstacle 29 = .ok (.ifCond .eq 6, 3) := by decide +kernel
theorem dX1_leaseObstacle_32 : decode cX1_leaseObstacle 32 = .ok (.bipush 7, 2) := by decide +kernel
theorem dX1_leaseObstacle_34 : decode cX1_leaseObstacle 34 = .ok (.ireturn, 1) := by decide +kernel
theorem dX1_leaseObstacle_35 : decode cX1_leaseObstacle 35 = .ok (.aload_n 0, 1) := by decide +kernel
theorem dX1_leaseObstacle_36 : decode cX1_leaseObstacle 36 = .ok (.getfield 12, 3) := by decide +kernel
theorem dX1_leaseObstacle_39 : decode cX1_leaseObstacle 39 = .ok (.iload_n 2, 1) := by decide +kernel
theorem dX1_leaseObstacle_40 : decode cX1_leaseObstacle 40 = .ok (.invokevirtual 92, 3) := by decide +kernel
theorem dX1_leaseObstacle_43 : decode cX1_leaseObstacle 43 = .ok (.ifCond .ne 6, 3) := by decide +kernel
theorem dX1_leaseObstacle_46 : decode cX1_leaseObstacle 46 = .ok (.bipush 8, 2) := by decide +kernel
theorem dX1_leaseObstacle_48 : decode cX1_leaseObstacle 48 = .ok (.ireturn, 1) := by decide +kernel
theorem dX1_leaseObstacle_49 : decode cX1_leaseObstacle 49 = .ok (.aload_n 0, 1) := by decide +kernel
theorem dX1_leaseObstacle_50 : decode cX1_leaseObstacle 50 = .ok (.getfield 22, 3) := by decide +kernel
theorem dX1_leaseObstacle_53 : decode cX1_leaseObstacle 53 = .ok (.iload_n 1, 1) := by decide +kernel
theorem dX1_leaseObstacle_54 : decode cX1_leaseObstacle 54 = .ok (.iaload, 1) := by decide +kernel
theorem dX1_leaseObstacle_55 : decode cX1_leaseObstacle 55 = .ok (.aload_n 0, 1) := by decide +kernel
theorem dX1_leaseObstacle_56 : decode cX1_leaseObstacle 56 = .ok (.getfield 12, 3) := by decide +kernel
theorem dX1_leaseObstacle_59 : decode cX1_leaseObstacle 59 = .ok (.iload_n 2, 1) := by decide +kernel
theorem dX1_leaseObstacle_60 : decode cX1_leaseObstacle 60 = .ok (.invokevirtual 95, 3) := by decide +kernel
theorem dX1_leaseObstacle_63 : decode cX1_leaseObstacle 63 = .ok (.if_icmp .ge 8, 3) := by decide +kernel
theorem dX1_leaseObstacle_66 : decode cX1_leaseObstacle 66 = .ok (.bipush 9, 2) := by decide +kernel
theorem dX1_leaseObstacle_68 : decode cX1_leaseObstacle 68 = .ok (.goto 4, 3) := by decide +kernel
theorem dX1_leaseObstacle_71 : decode cX1_leaseObstacle 71 = .ok (.iconst 0, 1) := by decide +kernel
theorem dX1_leaseObstacle_72 : decode cX1_leaseObstacle 72 = .ok (.ireturn, 1) := by decide +kernel
theorem dX1_obstacleDetail_0 : decode cX1_obstacleDetail 0 = .ok (.iload_n 1, 1) := by decide +kernel
theorem dX1_obstacleDetail_1 : decode cX1_obstacleDetail 1 = .ok (.tableswitch 77 6 9 #[31, 37, 44, 70], 31) := by decide +kernel
theorem dX1_obstacleDetail_32 : decode cX1_obstacleDetail 32 = .ok (.aload_n 0, 1) := by decide +kernel
theorem dX1_obstacleDetail_33 : decode cX1_obstacleDetail 33 = .ok (.iload_n 2, 1) := by decide +kernel
theorem dX1_obstacleDetail_34 : decode cX1_obstacleDetail 34 = .ok (.invokevirtual 85, 3) := by decide +kernel
theorem dX1_obstacleDetail_37 : decode cX1_obstacleDetail 37 = .ok (.ireturn, 1) := by decide +kernel
theorem dX1_obstacleDetail_38 : decode cX1_obstacleDetail 38 = .ok (.aload_n 0, 1) := by decide +kernel
theorem dX1_obstacleDetail_39 : decode cX1_obstacleDetail 39 = .ok (.getfield 29, 3) := by decide +kernel
theorem dX1_obstacleDetail_42 : decode cX1_obstacleDetail 42 = .ok (.iload_n 3, 1) := by decide +kernel
theorem dX1_obstacleDetail_43 : decode cX1_obstacleDetail 43 = .ok (.iaload, 1) := by decide +kernel
theorem dX1_obstacleDetail_44 : decode cX1_obstacleDetail 44 = .ok (.ireturn, 1) := by decide +kernel
theorem dX1_obstacleDetail_45 : decode cX1_obstacleDetail 45 = .ok (.aload_n 0, 1) := by decide +kernel
theorem dX1_obstacleDetail_46 : decode cX1_obstacleDetail 46 = .ok (.getfield 12, 3) := by decide +kernel
theorem dX1_obstacleDetail_49 : decode cX1_obstacleDetail 49 = .ok (.aload_n 0, 1) := by decide +kernel
theorem dX1_obstacleDetail_50 : decode cX1_obstacleDetail 50 = .ok (.getfield 12, 3) := by decide +kernel
theorem dX1_obstacleDetail_53 : decode cX1_obstacleDetail 53 = .ok (.getfield 98, 3) := by decide +kernel
theorem dX1_obstacleDetail_56 : decode cX1_obstacleDetail 56 = .ok (.iload_n 3, 1) := by decide +kernel
theorem dX1_obstacleDetail_57 : decode cX1_obstacleDetail 57 = .ok (.iaload, 1) := by decide +kernel
theorem dX1_obstacleDetail_58 : decode cX1_obstacleDetail 58 = .ok (.aload_n 0, 1) := by decide +kernel
theorem dX1_obstacleDetail_59 : decode cX1_obstacleDetail 59 = .ok (.getfield 12, 3) := by decide +kernel
theorem dX1_obstacleDetail_62 : decode cX1_obstacleDetail 62 = .ok (.getfield 101, 3) := by decide +kernel
theorem dX1_obstacleDetail_65 : decode cX1_obstacleDetail 65 = .ok (.iload_n 3, 1) := by decide +kernel
theorem dX1_obstacleDetail_66 : decode cX1_obstacleDetail 66 = .ok (.iaload, 1) := by decide +kernel
theorem dX1_obstacleDetail_67 : decode cX1_obstacleDetail 67 = .ok (.invokevirtual 104, 3) := by decide +kernel
theorem dX1_obstacleDetail_70 : decode cX1_obstacleDetail 70 = .ok (.ireturn, 1) := by decide +kernel
theorem dX1_obstacleDetail_71 : decode cX1_obstacleDetail 71 = .ok (.aload_n 0, 1) := by decide +kernel
theorem dX1_obstacleDetail_72 : decode cX1_obstacleDetail 72 = .ok (.getfield 22, 3) := by decide +kernel
theorem dX1_obstacleDetail_75 : decode cX1_obstacleDetail 75 = .ok (.iload_n 2, 1) := by decide +kernel
theorem dX1_obstacleDetail_76 : decode cX1_obstacleDetail 76 = .ok (.iaload, 1) := by decide +kernel
theorem dX1_obstacleDetail_77 : decode cX1_obstacleDetail 77 = .ok (.ireturn, 1) := by decide +kernel
theorem dX1_obstacleDetail_78 : decode cX1_obstacleDetail 78 = .ok (.iload_n 2, 1) := by decide +kernel
theorem dX1_obstacleDetail_79 : decode cX1_obstacleDetail 79 = .ok (.ireturn, 1) := by decide +kernel
theorem dX1_cheapestBench_0 : decode cX1_cheapestBench 0 = .ok (.iconst (-1), 1) := by decide +kernel
theorem dX1_cheapestBench_1 : decode cX1_cheapestBench 1 = .ok (.istore_n 2, 1) := by decide +kernel
theorem dX1_cheapestBench_2 : decode cX1_cheapestBench 2 = .ok (.iconst 0, 1) := by decide +kernel
theorem dX1_cheapestBench_3 : decode cX1_cheapestBench 3 = .ok (.istore_n 3, 1) := by decide +kernel
theorem dX1_cheapestBench_4 : decode cX1_cheapestBench 4 = .ok (.iconst 0, 1) := by decide +kernel
theorem dX1_cheapestBench_5 : decode cX1_cheapestBench 5 = .ok (.istore 4, 2) := by decide +kernel
theorem dX1_cheapestBench_7 : decode cX1_cheapestBench 7 = .ok (.iload 4, 2) := by decide +kernel
theorem dX1_cheapestBench_9 : decode cX1_cheapestBench 9 = .ok (.aload_n 0, 1) := by decide +kernel
theorem dX1_cheapestBench_10 : decode cX1_cheapestBench 10 = .ok (.getfield 12, 3) := by decide +kernel
theorem dX1_cheapestBench_13 : decode cX1_cheapestBench 13 = .ok (.getfield 66, 3) := by decide +kernel
theorem dX1_cheapestBench_16 : decode cX1_cheapestBench 16 = .ok (.if_icmp .ge 47, 3) := by decide +kernel
theorem dX1_cheapestBench_19 : decode cX1_cheapestBench 19 = .ok (.aload_n 0, 1) := by decide +kernel
theorem dX1_cheapestBench_20 : decode cX1_cheapestBench 20 = .ok (.getfield 12, 3) := by decide +kernel
theorem dX1_cheapestBench_23 : decode cX1_cheapestBench 23 = .ok (.iload 4, 2) := by decide +kernel
theorem dX1_cheapestBench_25 : decode cX1_cheapestBench 25 = .ok (.invokevirtual 95, 3) := by decide +kernel
theorem dX1_cheapestBench_28 : decode cX1_cheapestBench 28 = .ok (.istore 5, 2) := by decide +kernel
theorem dX1_cheapestBench_30 : decode cX1_cheapestBench 30 = .ok (.aload_n 0, 1) := by decide +kernel
theorem dX1_cheapestBench_31 : decode cX1_cheapestBench 31 = .ok (.iload_n 1, 1) := by decide +kernel
theorem dX1_cheapestBench_32 : decode cX1_cheapestBench 32 = .ok (.iload 4, 2) := by decide +kernel
theorem dX1_cheapestBench_34 : decode cX1_cheapestBench 34 = .ok (.invokevirtual 108, 3) := by decide +kernel
theorem dX1_cheapestBench_37 : decode cX1_cheapestBench 37 = .ok (.ifCond .ne 20, 3) := by decide +kernel
theorem dX1_cheapestBench_40 : decode cX1_cheapestBench 40 = .ok (.iload_n 2, 1) := by decide +kernel
theorem dX1_cheapestBench_41 : decode cX1_cheapestBench 41 = .ok (.iconst (-1), 1) := by decide +kernel
theorem dX1_cheapestBench_42 : decode cX1_cheapestBench 42 = .ok (.if_icmp .eq 9, 3) := by decide +kernel
theorem dX1_cheapestBench_45 : decode cX1_cheapestBench 45 = .ok (.iload 5, 2) := by decide +kernel
theorem dX1_cheapestBench_47 : decode cX1_cheapestBench 47 = .ok (.iload_n 3, 1) := by decide +kernel
theorem dX1_cheapestBench_48 : decode cX1_cheapestBench 48 = .ok (.if_icmp .ge 9, 3) := by decide +kernel
theorem dX1_cheapestBench_51 : decode cX1_cheapestBench 51 = .ok (.iload 4, 2) := by decide +kernel
theorem dX1_cheapestBench_53 : decode cX1_cheapestBench 53 = .ok (.istore_n 2, 1) := by decide +kernel
theorem dX1_cheapestBench_54 : decode cX1_cheapestBench 54 = .ok (.iload 5, 2) := by decide +kernel
theorem dX1_cheapestBench_56 : decode cX1_cheapestBench 56 = .ok (.istore_n 3, 1) := by decide +kernel
theorem dX1_cheapestBench_57 : decode cX1_cheapestBench 57 = .ok (.iinc 4 1, 3) := by decide +kernel
theorem dX1_cheapestBench_60 : decode cX1_cheapestBench 60 = .ok (.goto (-53), 3) := by decide +kernel
theorem dX1_cheapestBench_63 : decode cX1_cheapestBench 63 = .ok (.iload_n 2, 1) := by decide +kernel
theorem dX1_cheapestBench_64 : decode cX1_cheapestBench 64 = .ok (.ireturn, 1) := by decide +kernel
theorem dX1_sign_0 : decode cX1_sign 0 = .ok (.aload_n 0, 1) := by decide +kernel
theorem dX1_sign_1 : decode cX1_sign 1 = .ok (.iload_n 1, 1) := by decide +kernel
theorem dX1_sign_2 : decode cX1_sign 2 = .ok (.invokevirtual 62, 3) := by decide +kernel
theorem dX1_sign_5 : decode cX1_sign 5 = .ok (.ifCond .eq 14, 3) := by decide +kernel
theorem dX1_sign_8 : decode cX1_sign 8 = .ok (.aload_n 0, 1) := by decide +kernel
theorem dX1_sign_9 : decode cX1_sign 9 = .ok (.getfield 12, 3) := by decide +kernel
theorem dX1_sign_12 : decode cX1_sign 12 = .ok (.iload_n 2, 1) := by decide +kernel
theorem dX1_sign_13 : decode cX1_sign 13 = .ok (.invokevirtual 111, 3) := by decide +kernel
theorem dX1_sign_16 : decode cX1_sign 16 = .ok (.ifCond .ne 9, 3) := by decide +kernel
theorem dX1_sign_19 : decode cX1_sign 19 = .ok (.aload 4, 2) := by decide +kernel
theorem dX1_sign_21 : decode cX1_sign 21 = .ok (.invokevirtual 82, 3) := by decide +kernel
theorem dX1_sign_24 : decode cX1_sign 24 = .ok (.return_, 1) := by decide +kernel
theorem dX1_sign_25 : decode cX1_sign 25 = .ok (.iload_n 3, 1) := by decide +kernel
theorem dX1_sign_26 : decode cX1_sign 26 = .ok (.invokestatic 114, 3) := by decide +kernel
theorem dX1_sign_29 : decode cX1_sign 29 = .ok (.ifCond .ne 9, 3) := by decide +kernel
theorem dX1_sign_32 : decode cX1_sign 32 = .ok (.aload 4, 2) := by decide +kernel
theorem dX1_sign_34 : decode cX1_sign 34 = .ok (.invokevirtual 69, 3) := by decide +kernel
theorem dX1_sign_37 : decode cX1_sign 37 = .ok (.return_, 1) := by decide +kernel
theorem dX1_sign_38 : decode cX1_sign 38 = .ok (.aload_n 0, 1) := by decide +kernel
theorem dX1_sign_39 : decode cX1_sign 39 = .ok (.iload_n 1, 1) := by decide +kernel
theorem dX1_sign_40 : decode cX1_sign 40 = .ok (.iload_n 2, 1) := by decide +kernel
theorem dX1_sign_41 : decode cX1_sign 41 = .ok (.invokevirtual 108, 3) := by decide +kernel
theorem dX1_sign_44 : decode cX1_sign 44 = .ok (.istore 5, 2) := by decide +kernel
theorem dX1_sign_46 : decode cX1_sign 46 = .ok (.iload 5, 2) := by decide +kernel
theorem dX1_sign_48 : decode cX1_sign 48 = .ok (.ifCond .eq 19, 3) := by decide +kernel
theorem dX1_sign_51 : decode cX1_sign 51 = .ok (.aload 4, 2) := by decide +kernel
theorem dX1_sign_53 : decode cX1_sign 53 = .ok (.iload 5, 2) := by decide +kernel
theorem dX1_sign_55 : decode cX1_sign 55 = .ok (.aload_n 0, 1) := by decide +kernel
theorem dX1_sign_56 : decode cX1_sign 56 = .ok (.iload 5, 2) := by decide +kernel
theorem dX1_sign_58 : decode cX1_sign 58 = .ok (.iload_n 1, 1) := by decide +kernel
theorem dX1_sign_59 : decode cX1_sign 59 = .ok (.iload_n 2, 1) := by decide +kernel
theorem dX1_sign_60 : decode cX1_sign 60 = .ok (.invokevirtual 117, 3) := by decide +kernel
theorem dX1_sign_63 : decode cX1_sign 63 = .ok (.invokevirtual 74, 3) := by decide +kernel
theorem dX1_sign_66 : decode cX1_sign 66 = .ok (.return_, 1) := by decide +kernel
theorem dX1_sign_67 : decode cX1_sign 67 = .ok (.aload_n 0, 1) := by decide +kernel
theorem dX1_sign_68 : decode cX1_sign 68 = .ok (.getfield 12, 3) := by decide +kernel
theorem dX1_sign_71 : decode cX1_sign 71 = .ok (.iload_n 2, 1) := by decide +kernel
theorem dX1_sign_72 : decode cX1_sign 72 = .ok (.invokevirtual 95, 3) := by decide +kernel
theorem dX1_sign_75 : decode cX1_sign 75 = .ok (.istore 6, 2) := by decide +kernel
theorem dX1_sign_77 : decode cX1_sign 77 = .ok (.aload_n 0, 1) := by decide +kernel
theorem dX1_sign_78 : decode cX1_sign 78 = .ok (.getfield 22, 3) := by decide +kernel
theorem dX1_sign_81 : decode cX1_sign 81 = .ok (.iload_n 1, 1) := by decide +kernel
theorem dX1_sign_82 : decode cX1_sign 82 = .ok (.dup2, 1) := by decide +kernel
theorem dX1_sign_83 : decode cX1_sign 83 = .ok (.iaload, 1) := by decide +kernel
theorem dX1_sign_84 : decode cX1_sign 84 = .ok (.iload 6, 2) := by decide +kernel
theorem dX1_sign_86 : decode cX1_sign 86 = .ok (.isub, 1) := by decide +kernel
theorem dX1_sign_87 : decode cX1_sign 87 = .ok (.iastore, 1) := by decide +kernel
theorem dX1_sign_88 : decode cX1_sign 88 = .ok (.aload_n 0, 1) := by decide +kernel
theorem dX1_sign_89 : decode cX1_sign 89 = .ok (.getfield 29, 3) := by decide +kernel
theorem dX1_sign_92 : decode cX1_sign 92 = .ok (.iload_n 2, 1) := by decide +kernel
theorem dX1_sign_93 : decode cX1_sign 93 = .ok (.iload_n 1, 1) := by decide +kernel
theorem dX1_sign_94 : decode cX1_sign 94 = .ok (.iastore, 1) := by decide +kernel
theorem dX1_sign_95 : decode cX1_sign 95 = .ok (.aload_n 0, 1) := by decide +kernel
theorem dX1_sign_96 : decode cX1_sign 96 = .ok (.getfield 32, 3) := by decide +kernel
theorem dX1_sign_99 : decode cX1_sign 99 = .ok (.iload_n 2, 1) := by decide +kernel
theorem dX1_sign_100 : decode cX1_sign 100 = .ok (.iload 6, 2) := by decide +kernel
theorem dX1_sign_102 : decode cX1_sign 102 = .ok (.iastore, 1) := by decide +kernel
theorem dX1_sign_103 : decode cX1_sign 103 = .ok (.aload_n 0, 1) := by decide +kernel
theorem dX1_sign_104 : decode cX1_sign 104 = .ok (.getfield 35, 3) := by decide +kernel
theorem dX1_sign_107 : decode cX1_sign 107 = .ok (.iload_n 2, 1) := by decide +kernel
theorem dX1_sign_108 : decode cX1_sign 108 = .ok (.iload_n 3, 1) := by decide +kernel
theorem dX1_sign_109 : decode cX1_sign 109 = .ok (.iastore, 1) := by decide +kernel
theorem dX1_sign_110 : decode cX1_sign 110 = .ok (.aload 4, 2) := by decide +kernel
theorem dX1_sign_112 : decode cX1_sign 112 = .ok (.iload 6, 2) := by decide +kernel
theorem dX1_sign_114 : decode cX1_sign 114 = .ok (.invokevirtual 78, 3) := by decide +kernel
theorem dX1_sign_117 : decode cX1_sign 117 = .ok (.return_, 1) := by decide +kernel
theorem dX1_breakOff_0 : decode cX1_breakOff 0 = .ok (.aload_n 0, 1) := by decide +kernel
theorem dX1_breakOff_1 : decode cX1_breakOff 1 = .ok (.getfield 12, 3) := by decide +kernel
theorem dX1_breakOff_4 : decode cX1_breakOff 4 = .ok (.iload_n 1, 1) := by decide +kernel
theorem dX1_breakOff_5 : decode cX1_breakOff 5 = .ok (.invokevirtual 111, 3) := by decide +kernel
theorem dX1_breakOff_8 : decode cX1_breakOff 8 = .ok (.ifCond .ne 10, 3) := by decide +kernel
theorem dX1_breakOff_11 : decode cX1_breakOff 11 = .ok (.aload_n 2, 1) := by decide +kernel
theorem dX1_breakOff_12 : decode cX1_breakOff 12 = .ok (.invokevirtual 82, 3) := by decide +kernel
theorem dX1_breakOff_15 : decode cX1_breakOff 15 = .ok (.goto 41, 3) := by decide +kernel
theorem dX1_breakOff_18 : decode cX1_breakOff 18 = .ok (.aload_n 0, 1) := by decide +kernel
theorem dX1_breakOff_19 : decode cX1_breakOff 19 = .ok (.iload_n 1, 1) := by decide +kernel
theorem dX1_breakOff_20 : decode cX1_breakOff 20 = .ok (.invokevirtual 89, 3) := by decide +kernel
theorem dX1_breakOff_23 : decode cX1_breakOff 23 = .ok (.ifCond .ne 13, 3) := by decide +kernel
theorem dX1_breakOff_26 : decode cX1_breakOff 26 = .ok (.aload_n 2, 1) := by decide +kernel
theorem dX1_breakOff_27 : decode cX1_breakOff 27 = .ok (.bipush 10, 2) := by decide +kernel
theorem dX1_breakOff_29 : decode cX1_breakOff 29 = .ok (.iload_n 1, 1) := by decide +kernel
theorem dX1_breakOff_30 : decode cX1_breakOff 30 = .ok (.invokevirtual 74, 3) := by decide +kernel
theorem dX1_breakOff_33 : decode cX1_breakOff 33 = .ok (.goto 23, 3) := by decide +kernel
theorem dX1_breakOff_36 : decode cX1_breakOff 36 = .ok (.aload_n 0, 1) := by decide +kernel
theorem dX1_breakOff_37 : decode cX1_breakOff 37 = .ok (.getfield 32, 3) := by decide +kernel
theorem dX1_breakOff_40 : decode cX1_breakOff 40 = .ok (.iload_n 1, 1) := by decide +kernel
theorem dX1_breakOff_41 : decode cX1_breakOff 41 = .ok (.iaload, 1) := by decide +kernel
theorem dX1_breakOff_42 : decode cX1_breakOff 42 = .ok (.iconst 2, 1) := by decide +kernel
theorem dX1_breakOff_43 : decode cX1_breakOff 43 = .ok (.idiv, 1) := by decide +kernel
theorem dX1_breakOff_44 : decode cX1_breakOff 44 = .ok (.istore_n 3, 1) := by decide +kernel
theorem dX1_breakOff_45 : decode cX1_breakOff 45 = .ok (.aload_n 2, 1) := by decide +kernel
theorem dX1_breakOff_46 : decode cX1_breakOff 46 = .ok (.iload_n 3, 1) := by decide +kernel
theorem dX1_breakOff_47 : decode cX1_breakOff 47 = .ok (.invokevirtual 78, 3) := by decide +kernel
theorem dX1_breakOff_50 : decode cX1_breakOff 50 = .ok (.aload_n 0, 1) := by decide +kernel
theorem dX1_breakOff_51 : decode cX1_breakOff 51 = .ok (.iload_n 1, 1) := by decide +kernel
theorem dX1_breakOff_52 : decode cX1_breakOff 52 = .ok (.iload_n 3, 1) := by decide +kernel
theorem dX1_breakOff_53 : decode cX1_breakOff 53 = .ok (.invokevirtual 121, 3) := by decide +kernel
theorem dX1_breakOff_56 : decode cX1_breakOff 56 = .ok (.return_, 1) := by decide +kernel
theorem dX1_extend_0 : decode cX1_extend 0 = .ok (.aload_n 0, 1) := by decide +kernel
theorem dX1_extend_1 : decode cX1_extend 1 = .ok (.getfield 12, 3) := by decide +kernel
theorem dX1_extend_4 : decode cX1_extend 4 = .ok (.iload_n 1, 1) := by decide +kernel
theorem dX1_extend_5 : decode cX1_extend 5 = .ok (.invokevirtual 111, 3) := by decide +kernel
theorem dX1_extend_8 : decode cX1_extend 8 = .ok (.ifCond .ne 10, 3) := by decide +kernel
theorem dX1_extend_11 : decode cX1_extend 11 = .ok (.aload_n 3, 1) := by decide +kernel
theorem dX1_extend_12 : decode cX1_extend 12 = .ok (.invokevirtual 82, 3) := by decide +kernel
theorem dX1_extend_15 : decode cX1_extend 15 = .ok (.goto 83, 3) := by decide +kernel
theorem dX1_extend_18 : decode cX1_extend 18 = .ok (.iload_n 2, 1) := by decide +kernel
theorem dX1_extend_19 : decode cX1_extend 19 = .ok (.invokestatic 114, 3) := by decide +kernel
theorem dX1_extend_22 : decode cX1_extend 22 = .ok (.ifCond .ne 10, 3) := by decide +kernel
theorem dX1_extend_25 : decode cX1_extend 25 = .ok (.aload_n 3, 1) := by decide +kernel
theorem dX1_extend_26 : decode cX1_extend 26 = .ok (.invokevirtual 69, 3) := by decide +kernel
theorem dX1_extend_29 : decode cX1_extend 29 = .ok (.goto 69, 3) := by decide +kernel
theorem dX1_extend_32 : decode cX1_extend 32 = .ok (.aload_n 0, 1) := by decide +kernel
theorem dX1_extend_33 : decode cX1_extend 33 = .ok (.iload_n 1, 1) := by decide +kernel
theorem dX1_extend_34 : decode cX1_extend 34 = .ok (.invokevirtual 89, 3) := by decide +kernel
theorem dX1_extend_37 : decode cX1_extend 37 = .ok (.ifCond .ne 13, 3) := by decide +kernel
theorem dX1_extend_40 : decode cX1_extend 40 = .ok (.aload_n 3, 1) := by decide +kernel
theorem dX1_extend_41 : decode cX1_extend 41 = .ok (.bipush 10, 2) := by decide +kernel
theorem dX1_extend_43 : decode cX1_extend 43 = .ok (.iload_n 1, 1) := by decide +kernel
theorem dX1_extend_44 : decode cX1_extend 44 = .ok (.invokevirtual 74, 3) := by decide +kernel
theorem dX1_extend_47 : decode cX1_extend 47 = .ok (.goto 51, 3) := by decide +kernel
theorem dX1_extend_50 : decode cX1_extend 50 = .ok (.aload_n 0, 1) := by decide +kernel
theorem dX1_extend_51 : decode cX1_extend 51 = .ok (.getfield 35, 3) := by decide +kernel
theorem dX1_extend_54 : decode cX1_extend 54 = .ok (.iload_n 1, 1) := by decide +kernel
theorem dX1_extend_55 : decode cX1_extend 55 = .ok (.iaload, 1) := by decide +kernel
theorem dX1_extend_56 : decode cX1_extend 56 = .ok (.iload_n 2, 1) := by decide +kernel
theorem dX1_extend_57 : decode cX1_extend 57 = .ok (.iadd, 1) := by decide +kernel
theorem dX1_extend_58 : decode cX1_extend 58 = .ok (.bipush 12, 2) := by decide +kernel
theorem dX1_extend_60 : decode cX1_extend 60 = .ok (.if_icmp .le 18, 3) := by decide +kernel
theorem dX1_extend_63 : decode cX1_extend 63 = .ok (.aload_n 3, 1) := by decide +kernel
theorem dX1_extend_64 : decode cX1_extend 64 = .ok (.bipush 11, 2) := by decide +kernel
theorem dX1_extend_66 : decode cX1_extend 66 = .ok (.aload_n 0, 1) := by decide +kernel
theorem dX1_extend_67 : decode cX1_extend 67 = .ok (.getfield 35, 3) := by decide +kernel
theorem dX1_extend_70 : decode cX1_extend 70 = .ok (.iload_n 1, 1) := by decide +kernel
theorem dX1_extend_71 : decode cX1_extend 71 = .ok (.iaload, 1) := by decide +kernel
theorem dX1_extend_72 : decode cX1_extend 72 = .ok (.invokevirtual 74, 3) := by decide +kernel
theorem dX1_extend_75 : decode cX1_extend 75 = .ok (.goto 23, 3) := by decide +kernel
theorem dX1_extend_78 : decode cX1_extend 78 = .ok (.aload_n 0, 1) := by decide +kernel
theorem dX1_extend_79 : decode cX1_extend 79 = .ok (.getfield 35, 3) := by decide +kernel
theorem dX1_extend_82 : decode cX1_extend 82 = .ok (.iload_n 1, 1) := by decide +kernel
theorem dX1_extend_83 : decode cX1_extend 83 = .ok (.dup2, 1) := by decide +kernel
theorem dX1_extend_84 : decode cX1_extend 84 = .ok (.iaload, 1) := by decide +kernel
theorem dX1_extend_85 : decode cX1_extend 85 = .ok (.iload_n 2, 1) := by decide +kernel
theorem dX1_extend_86 : decode cX1_extend 86 = .ok (.iadd, 1) := by decide +kernel
theorem dX1_extend_87 : decode cX1_extend 87 = .ok (.iastore, 1) := by decide +kernel
theorem dX1_extend_88 : decode cX1_extend 88 = .ok (.aload_n 3, 1) := by decide +kernel
theorem dX1_extend_89 : decode cX1_extend 89 = .ok (.aload_n 0, 1) := by decide +kernel
theorem dX1_extend_90 : decode cX1_extend 90 = .ok (.getfield 35, 3) := by decide +kernel
theorem dX1_extend_93 : decode cX1_extend 93 = .ok (.iload_n 1, 1) := by decide +kernel
theorem dX1_extend_94 : decode cX1_extend 94 = .ok (.iaload, 1) := by decide +kernel
theorem dX1_extend_95 : decode cX1_extend 95 = .ok (.invokevirtual 78, 3) := by decide +kernel
theorem dX1_extend_98 : decode cX1_extend 98 = .ok (.return_, 1) := by decide +kernel
theorem dX1_closeLease_0 : decode cX1_closeLease 0 = .ok (.aload_n 0, 1) := by decide +kernel
theorem dX1_closeLease_1 : decode cX1_closeLease 1 = .ok (.getfield 22, 3) := by decide +kernel
theorem dX1_closeLease_4 : decode cX1_closeLease 4 = .ok (.aload_n 0, 1) := by decide +kernel
theorem dX1_closeLease_5 : decode cX1_closeLease 5 = .ok (.getfield 29, 3) := by decide +kernel
theorem dX1_closeLease_8 : decode cX1_closeLease 8 = .ok (.iload_n 1, 1) := by decide +kernel
theorem dX1_closeLease_9 : decode cX1_closeLease 9 = .ok (.iaload, 1) := by decide +kernel
theorem dX1_closeLease_10 : decode cX1_closeLease 10 = .ok (.dup2, 1) := by decide +kernel
theorem dX1_closeLease_11 : decode cX1_closeLease 11 = .ok (.iaload, 1) := by decide +kernel
theorem dX1_closeLease_12 : decode cX1_closeLease 12 = .ok (.iload_n 2, 1) := by decide +kernel
theorem dX1_closeLease_13 : decode cX1_closeLease 13 = .ok (.iadd, 1) := by decide +kernel
theorem dX1_closeLease_14 : decode cX1_closeLease 14 = .ok (.iastore, 1) := by decide +kernel
theorem dX1_closeLease_15 : decode cX1_closeLease 15 = .ok (.aload_n 0, 1) := by decide +kernel
theorem dX1_closeLease_16 : decode cX1_closeLease 16 = .ok (.dup, 1) := by decide +kernel
theorem dX1_closeLease_17 : decode cX1_closeLease 17 = .ok (.getfield 41, 3) := by decide +kernel
theorem dX1_closeLease_20 : decode cX1_closeLease 20 = .ok (.aload_n 0, 1) := by decide +kernel
theorem dX1_closeLease_21 : decode cX1_closeLease 21 = .ok (.getfield 32, 3) := by decide +kernel
theorem dX1_closeLease_24 : decode cX1_closeLease 24 = .ok (.iload_n 1, 1) := by decide +kernel
theorem dX1_closeLease_25 : decode cX1_closeLease 25 = .ok (.iaload, 1) := by decide +kernel
theorem dX1_closeLease_26 : decode cX1_closeLease 26 = .ok (.iload_n 2, 1) := by decide +kernel
theorem dX1_closeLease_27 : decode cX1_closeLease 27 = .ok (.isub, 1) := by decide +kernel
theorem dX1_closeLease_28 : decode cX1_closeLease 28 = .ok (.iadd, 1) := by decide +kernel
theorem dX1_closeLease_29 : decode cX1_closeLease 29 = .ok (.putfield 41, 3) := by decide +kernel
theorem dX1_closeLease_32 : decode cX1_closeLease 32 = .ok (.aload_n 0, 1) := by decide +kernel
theorem dX1_closeLease_33 : decode cX1_closeLease 33 = .ok (.getfield 29, 3) := by decide +kernel
theorem dX1_closeLease_36 : decode cX1_closeLease 36 = .ok (.iload_n 1, 1) := by decide +kernel
theorem dX1_closeLease_37 : decode cX1_closeLease 37 = .ok (.iconst (-1), 1) := by decide +kernel
theorem dX1_closeLease_38 : decode cX1_closeLease 38 = .ok (.iastore, 1) := by decide +kernel
theorem dX1_closeLease_39 : decode cX1_closeLease 39 = .ok (.aload_n 0, 1) := by decide +kernel
theorem dX1_closeLease_40 : decode cX1_closeLease 40 = .ok (.getfield 32, 3) := by decide +kernel
theorem dX1_closeLease_43 : decode cX1_closeLease 43 = .ok (.iload_n 1, 1) := by decide +kernel
theorem dX1_closeLease_44 : decode cX1_closeLease 44 = .ok (.iconst 0, 1) := by decide +kernel
theorem dX1_closeLease_45 : decode cX1_closeLease 45 = .ok (.iastore, 1) := by decide +kernel
theorem dX1_closeLease_46 : decode cX1_closeLease 46 = .ok (.aload_n 0, 1) := by decide +kernel
theorem dX1_closeLease_47 : decode cX1_closeLease 47 = .ok (.getfield 35, 3) := by decide +kernel
theorem dX1_closeLease_50 : decode cX1_closeLease 50 = .ok (.iload_n 1, 1) := by decide +kernel
theorem dX1_closeLease_51 : decode cX1_closeLease 51 = .ok (.iconst 0, 1) := by decide +kernel
theorem dX1_closeLease_52 : decode cX1_closeLease 52 = .ok (.iastore, 1) := by decide +kernel
theorem dX1_closeLease_53 : decode cX1_closeLease 53 = .ok (.return_, 1) := by decide +kernel
theorem dX1_elapse_0 : decode cX1_elapse 0 = .ok (.iload_n 1, 1) := by decide +kernel
theorem dX1_elapse_1 : decode cX1_elapse 1 = .ok (.invokestatic 114, 3) := by decide +kernel
theorem dX1_elapse_4 : decode cX1_elapse 4 = .ok (.ifCond .ne 8, 3) := by decide +kernel
theorem dX1_elapse_7 : decode cX1_elapse 7 = .ok (.aload_n 2, 1) := by decide +kernel
theorem dX1_elapse_8 : decode cX1_elapse 8 = .ok (.invokevirtual 69, 3) := by decide +kernel
theorem dX1_elapse_11 : decode cX1_elapse 11 = .ok (.return_, 1) := by decide +kernel
theorem dX1_elapse_12 : decode cX1_elapse 12 = .ok (.iconst 0, 1) := by decide +kernel
theorem dX1_elapse_13 : decode cX1_elapse 13 = .ok (.istore_n 3, 1) := by decide +kernel
theorem dX1_elapse_14 : decode cX1_elapse 14 = .ok (.iconst 0, 1) := by decide +kernel
theorem dX1_elapse_15 : decode cX1_elapse 15 = .ok (.istore 4, 2) := by decide +kernel
theorem dX1_elapse_17 : decode cX1_elapse 17 = .ok (.iload 4, 2) := by decide +kernel
theorem dX1_elapse_19 : decode cX1_elapse 19 = .ok (.iload_n 1, 1) := by decide +kernel
theorem dX1_elapse_20 : decode cX1_elapse 20 = .ok (.if_icmp .ge 61, 3) := by decide +kernel
theorem dX1_elapse_23 : decode cX1_elapse 23 = .ok (.iconst 0, 1) := by decide +kernel
theorem dX1_elapse_24 : decode cX1_elapse 24 = .ok (.istore 5, 2) := by decide +kernel
theorem dX1_elapse_26 : decode cX1_elapse 26 = .ok (.iload 5, 2) := by decide +kernel
theorem dX1_elapse_28 : decode cX1_elapse 28 = .ok (.aload_n 0, 1) := by decide +kernel
theorem dX1_elapse_29 : decode cX1_elapse 29 = .ok (.getfield 12, 3) := by decide +kernel
theorem dX1_elapse_32 : decode cX1_elapse 32 = .ok (.getfield 66, 3) := by decide +kernel
theorem dX1_elapse_35 : decode cX1_elapse 35 = .ok (.if_icmp .ge 30, 3) := by decide +kernel
theorem dX1_elapse_38 : decode cX1_elapse 38 = .ok (.aload_n 0, 1) := by decide +kernel
theorem dX1_elapse_39 : decode cX1_elapse 39 = .ok (.iload 5, 2) := by decide +kernel
theorem dX1_elapse_41 : decode cX1_elapse 41 = .ok (.invokevirtual 89, 3) := by decide +kernel
theorem dX1_elapse_44 : decode cX1_elapse 44 = .ok (.ifCond .eq 15, 3) := by decide +kernel
theorem dX1_elapse_47 : decode cX1_elapse 47 = .ok (.aload_n 0, 1) := by decide +kernel
theorem dX1_elapse_48 : decode cX1_elapse 48 = .ok (.iload 5, 2) := by decide +kernel
theorem dX1_elapse_50 : decode cX1_elapse 50 = .ok (.invokevirtual 124, 3) := by decide +kernel
theorem dX1_elapse_53 : decode cX1_elapse 53 = .ok (.ifCond .eq 6, 3) := by decide +kernel
theorem dX1_elapse_56 : decode cX1_elapse 56 = .ok (.iinc 3 1, 3) := by decide +kernel
theorem dX1_elapse_59 : decode cX1_elapse 59 = .ok (.iinc 5 1, 3) := by decide +kernel
theorem dX1_elapse_62 : decode cX1_elapse 62 = .ok (.goto (-36), 3) := by decide +kernel
theorem dX1_elapse_65 : decode cX1_elapse 65 = .ok (.aload_n 0, 1) := by decide +kernel
theorem dX1_elapse_66 : decode cX1_elapse 66 = .ok (.dup, 1) := by decide +kernel
theorem dX1_elapse_67 : decode cX1_elapse 67 = .ok (.getfield 38, 3) := by decide +kernel
theorem dX1_elapse_70 : decode cX1_elapse 70 = .ok (.iconst 1, 1) := by decide +kernel
theorem dX1_elapse_71 : decode cX1_elapse 71 = .ok (.iadd, 1) := by decide +kernel
theorem dX1_elapse_72 : decode cX1_elapse 72 = .ok (.putfield 38, 3) := by decide +kernel
theorem dX1_elapse_75 : decode cX1_elapse 75 = .ok (.iinc 4 1, 3) := by decide +kernel
theorem dX1_elapse_78 : decode cX1_elapse 78 = .ok (.goto (-61), 3) := by decide +kernel
theorem dX1_elapse_81 : decode cX1_elapse 81 = .ok (.aload_n 2, 1) := by decide +kernel
theorem dX1_elapse_82 : decode cX1_elapse 82 = .ok (.iload_n 3, 1) := by decide +kernel
theorem dX1_elapse_83 : decode cX1_elapse 83 = .ok (.invokevirtual 78, 3) := by decide +kernel
theorem dX1_elapse_86 : decode cX1_elapse 86 = .ok (.return_, 1) := by decide +kernel
theorem dX1_endsThisMonth_0 : decode cX1_endsThisMonth 0 = .ok (.aload_n 0, 1) := by decide +kernel
theorem dX1_endsThisMonth_1 : decode cX1_endsThisMonth 1 = .ok (.getfield 29, 3) := by decide +kernel
theorem dX1_endsThisMonth_4 : decode cX1_endsThisMonth 4 = .ok (.iload_n 1, 1) := by decide +kernel
theorem dX1_endsThisMonth_5 : decode cX1_endsThisMonth 5 = .ok (.iaload, 1) := by decide +kernel
theorem dX1_endsThisMonth_6 : decode cX1_endsThisMonth 6 = .ok (.istore_n 2, 1) := by decide +kernel
theorem dX1_endsThisMonth_7 : decode cX1_endsThisMonth 7 = .ok (.aload_n 0, 1) := by decide +kernel
theorem dX1_endsThisMonth_8 : decode cX1_endsThisMonth 8 = .ok (.getfield 12, 3) := by decide +kernel
theorem dX1_endsThisMonth_11 : decode cX1_endsThisMonth 11 = .ok (.iload_n 1, 1) := by decide +kernel
theorem dX1_endsThisMonth_12 : decode cX1_endsThisMonth 12 = .ok (.invokevirtual 95, 3) := by decide +kernel
theorem dX1_endsThisMonth_15 : decode cX1_endsThisMonth 15 = .ok (.istore_n 3, 1) := by decide +kernel
theorem dX1_endsThisMonth_16 : decode cX1_endsThisMonth 16 = .ok (.aload_n 0, 1) := by decide +kernel
theorem dX1_endsThisMonth_17 : decode cX1_endsThisMonth 17 = .ok (.getfield 12, 3) := by decide +kernel
theorem dX1_endsThisMonth_20 : decode cX1_endsThisMonth 20 = .ok (.iload_n 1, 1) := by decide +kernel
theorem dX1_endsThisMonth_21 : decode cX1_endsThisMonth 21 = .ok (.invokevirtual 92, 3) := by decide +kernel
theorem dX1_endsThisMonth_24 : decode cX1_endsThisMonth 24 = .ok (.ifCond .ne 26, 3) := by decide +kernel
theorem dX1_endsThisMonth_27 : decode cX1_endsThisMonth 27 = .ok (.aload_n 0, 1) := by decide +kernel
theorem dX1_endsThisMonth_28 : decode cX1_endsThisMonth 28 = .ok (.dup, 1) := by decide +kernel
theorem dX1_endsThisMonth_29 : decode cX1_endsThisMonth 29 = .ok (.getfield 50, 3) := by decide +kernel
theorem dX1_endsThisMonth_32 : decode cX1_endsThisMonth 32 = .ok (.iconst 1, 1) := by decide +kernel
theorem dX1_endsThisMonth_33 : decode cX1_endsThisMonth 33 = .ok (.iadd, 1) := by decide +kernel
theorem dX1_endsThisMonth_34 : decode cX1_endsThisMonth 34 = .ok (.putfield 50, 3) := by decide +kernel
theorem dX1_endsThisMonth_37 : decode cX1_endsThisMonth 37 = .ok (.aload_n 0, 1) := by decide +kernel
theorem dX1_endsThisMonth_38 : decode cX1_endsThisMonth 38 = .ok (.iload_n 1, 1) := by decide +kernel
theorem dX1_endsThisMonth_39 : decode cX1_endsThisMonth 39 = .ok (.aload_n 0, 1) := by decide +kernel
theorem dX1_endsThisMonth_40 : decode cX1_endsThisMonth 40 = .ok (.getfield 32, 3) := by decide +kernel
theorem dX1_endsThisMonth_43 : decode cX1_endsThisMonth 43 = .ok (.iload_n 1, 1) := by decide +kernel
theorem dX1_endsThisMonth_44 : decode cX1_endsThisMonth 44 = .ok (.iaload, 1) := by decide +kernel
theorem dX1_endsThisMonth_45 : decode cX1_endsThisMonth 45 = .ok (.invokevirtual 121, 3) := by decide +kernel
theorem dX1_endsThisMonth_48 : decode cX1_endsThisMonth 48 = .ok (.iconst 1, 1) := by decide +kernel
theorem dX1_endsThisMonth_49 : decode cX1_endsThisMonth 49 = .ok (.ireturn, 1) := by decide +kernel
theorem dX1_endsThisMonth_50 : decode cX1_endsThisMonth 50 = .ok (.aload_n 0, 1) := by decide +kernel
theorem dX1_endsThisMonth_51 : decode cX1_endsThisMonth 51 = .ok (.getfield 22, 3) := by decide +kernel
theorem dX1_endsThisMonth_54 : decode cX1_endsThisMonth 54 = .ok (.iload_n 2, 1) := by decide +kernel
theorem dX1_endsThisMonth_55 : decode cX1_endsThisMonth 55 = .ok (.iaload, 1) := by decide +kernel
theorem dX1_endsThisMonth_56 : decode cX1_endsThisMonth 56 = .ok (.iload_n 3, 1) := by decide +kernel
theorem dX1_endsThisMonth_57 : decode cX1_endsThisMonth 57 = .ok (.if_icmp .ge 31, 3) := by decide +kernel
theorem dX1_endsThisMonth_60 : decode cX1_endsThisMonth 60 = .ok (.aload_n 0, 1) := by decide +kernel
theorem dX1_endsThisMonth_61 : decode cX1_endsThisMonth 61 = .ok (.dup, 1) := by decide +kernel
theorem dX1_endsThisMonth_62 : decode cX1_endsThisMonth 62 = .ok (.getfield 47, 3) := by decide +kernel
theorem dX1_endsThisMonth_65 : decode cX1_endsThisMonth 65 = .ok (.iconst 1, 1) := by decide +kernel
theorem dX1_endsThisMonth_66 : decode cX1_endsThisMonth 66 = .ok (.iadd, 1) := by decide +kernel
theorem dX1_endsThisMonth_67 : decode cX1_endsThisMonth 67 = .ok (.putfield 47, 3) := by decide +kernel
theorem dX1_endsThisMonth_70 : decode cX1_endsThisMonth 70 = .ok (.aload_n 0, 1) := by decide +kernel
theorem dX1_endsThisMonth_71 : decode cX1_endsThisMonth 71 = .ok (.getfield 26, 3) := by decide +kernel
theorem dX1_endsThisMonth_74 : decode cX1_endsThisMonth 74 = .ok (.iload_n 2, 1) := by decide +kernel
theorem dX1_endsThisMonth_75 : decode cX1_endsThisMonth 75 = .ok (.dup2, 1) := by decide +kernel
theorem dX1_endsThisMonth_76 : decode cX1_endsThisMonth 76 = .ok (.iaload, 1) := by decide +kernel
theorem dX1_endsThisMonth_77 : decode cX1_endsThisMonth 77 = .ok (.iconst 1, 1) := by decide +kernel
theorem dX1_endsThisMonth_78 : decode cX1_endsThisMonth 78 = .ok (.iadd, 1) := by decide +kernel
theorem dX1_endsThisMonth_79 : decode cX1_endsThisMonth 79 = .ok (.iastore, 1) := by decide +kernel
theorem dX1_endsThisMonth_80 : decode cX1_endsThisMonth 80 = .ok (.aload_n 0, 1) := by decide +kernel
theorem dX1_endsThisMonth_81 : decode cX1_endsThisMonth 81 = .ok (.iload_n 1, 1) := by decide +kernel
theorem dX1_endsThisMonth_82 : decode cX1_endsThisMonth 82 = .ok (.iconst 0, 1) := by decide +kernel
theorem dX1_endsThisMonth_83 : decode cX1_endsThisMonth 83 = .ok (.invokevirtual 121, 3) := by decide +kernel
theorem dX1_endsThisMonth_86 : decode cX1_endsThisMonth 86 = .ok (.iconst 1, 1) := by decide +kernel
theorem dX1_endsThisMonth_87 : decode cX1_endsThisMonth 87 = .ok (.ireturn, 1) := by decide +kernel
theorem dX1_endsThisMonth_88 : decode cX1_endsThisMonth 88 = .ok (.aload_n 0, 1) := by decide +kernel
theorem dX1_endsThisMonth_89 : decode cX1_endsThisMonth 89 = .ok (.getfield 22, 3) := by decide +kernel
theorem dX1_endsThisMonth_92 : decode cX1_endsThisMonth 92 = .ok (.iload_n 2, 1) := by decide +kernel
theorem dX1_endsThisMonth_93 : decode cX1_endsThisMonth 93 = .ok (.dup2, 1) := by decide +kernel
theorem dX1_endsThisMonth_94 : decode cX1_endsThisMonth 94 = .ok (.iaload, 1) := by decide +kernel
theorem dX1_endsThisMonth_95 : decode cX1_endsThisMonth 95 = .ok (.iload_n 3, 1) := by decide +kernel
theorem dX1_endsThisMonth_96 : decode cX1_endsThisMonth 96 = .ok (.isub, 1) := by decide +kernel
theorem dX1_endsThisMonth_97 : decode cX1_endsThisMonth 97 = .ok (.iastore, 1) := by decide +kernel
theorem dX1_endsThisMonth_98 : decode cX1_endsThisMonth 98 = .ok (.aload_n 0, 1) := by decide +kernel
theorem dX1_endsThisMonth_99 : decode cX1_endsThisMonth 99 = .ok (.dup, 1) := by decide +kernel
theorem dX1_endsThisMonth_100 : decode cX1_endsThisMonth 100 = .ok (.getfield 41, 3) := by decide +kernel
theorem dX1_endsThisMonth_103 : decode cX1_endsThisMonth 103 = .ok (.iload_n 3, 1) := by decide +kernel
theorem dX1_endsThisMonth_104 : decode cX1_endsThisMonth 104 = .ok (.iadd, 1) := by decide +kernel
theorem dX1_endsThisMonth_105 : decode cX1_endsThisMonth 105 = .ok (.putfield 41, 3) := by decide +kernel
theorem dX1_endsThisMonth_108 : decode cX1_endsThisMonth 108 = .ok (.aload_n 0, 1) := by decide +kernel
theorem dX1_endsThisMonth_109 : decode cX1_endsThisMonth 109 = .ok (.getfield 35, 3) := by decide +kernel
theorem dX1_endsThisMonth_112 : decode cX1_endsThisMonth 112 = .ok (.iload_n 1, 1) := by decide +kernel
theorem dX1_endsThisMonth_113 : decode cX1_endsThisMonth 113 = .ok (.dup2, 1) := by decide +kernel
theorem dX1_endsThisMonth_114 : decode cX1_endsThisMonth 114 = .ok (.iaload, 1) := by decide +kernel
theorem dX1_endsThisMonth_115 : decode cX1_endsThisMonth 115 = .ok (.iconst 1, 1) := by decide +kernel
theorem dX1_endsThisMonth_116 : decode cX1_endsThisMonth 116 = .ok (.isub, 1) := by decide +kernel
theorem dX1_endsThisMonth_117 : decode cX1_endsThisMonth 117 = .ok (.iastore, 1) := by decide +kernel
theorem dX1_endsThisMonth_118 : decode cX1_endsThisMonth 118 = .ok (.aload_n 0, 1) := by decide +kernel
theorem dX1_endsThisMonth_119 : decode cX1_endsThisMonth 119 = .ok (.getfield 35, 3) := by decide +kernel
theorem dX1_endsThisMonth_122 : decode cX1_endsThisMonth 122 = .ok (.iload_n 1, 1) := by decide +kernel
theorem dX1_endsThisMonth_123 : decode cX1_endsThisMonth 123 = .ok (.iaload, 1) := by decide +kernel
theorem dX1_endsThisMonth_124 : decode cX1_endsThisMonth 124 = .ok (.ifCond .le 5, 3) := by decide +kernel
theorem dX1_endsThisMonth_127 : decode cX1_endsThisMonth 127 = .ok (.iconst 0, 1) := by decide +kernel
theorem dX1_endsThisMonth_128 : decode cX1_endsThisMonth 128 = .ok (.ireturn, 1) := by decide +kernel
theorem dX1_endsThisMonth_129 : decode cX1_endsThisMonth 129 = .ok (.aload_n 0, 1) := by decide +kernel
theorem dX1_endsThisMonth_130 : decode cX1_endsThisMonth 130 = .ok (.dup, 1) := by decide +kernel
theorem dX1_endsThisMonth_131 : decode cX1_endsThisMonth 131 = .ok (.getfield 53, 3) := by decide +kernel
theorem dX1_endsThisMonth_134 : decode cX1_endsThisMonth 134 = .ok (.iconst 1, 1) := by decide +kernel
theorem dX1_endsThisMonth_135 : decode cX1_endsThisMonth 135 = .ok (.iadd, 1) := by decide +kernel
theorem dX1_endsThisMonth_136 : decode cX1_endsThisMonth 136 = .ok (.putfield 53, 3) := by decide +kernel
theorem dX1_endsThisMonth_139 : decode cX1_endsThisMonth 139 = .ok (.aload_n 0, 1) := by decide +kernel
theorem dX1_endsThisMonth_140 : decode cX1_endsThisMonth 140 = .ok (.iload_n 1, 1) := by decide +kernel
theorem dX1_endsThisMonth_141 : decode cX1_endsThisMonth 141 = .ok (.aload_n 0, 1) := by decide +kernel
theorem dX1_endsThisMonth_142 : decode cX1_endsThisMonth 142 = .ok (.getfield 32, 3) := by decide +kernel
theorem dX1_endsThisMonth_145 : decode cX1_endsThisMonth 145 = .ok (.iload_n 1, 1) := by decide +kernel
theorem dX1_endsThisMonth_146 : decode cX1_endsThisMonth 146 = .ok (.iaload, 1) := by decide +kernel
theorem dX1_endsThisMonth_147 : decode cX1_endsThisMonth 147 = .ok (.invokevirtual 121, 3) := by decide +kernel
theorem dX1_endsThisMonth_150 : decode cX1_endsThisMonth 150 = .ok (.iconst 1, 1) := by decide +kernel
theorem dX1_endsThisMonth_151 : decode cX1_endsThisMonth 151 = .ok (.ireturn, 1) := by decide +kernel
theorem dX1_payableMonths_0 : decode cX1_payableMonths 0 = .ok (.aload_n 0, 1) := by decide +kernel
theorem dX1_payableMonths_1 : decode cX1_payableMonths 1 = .ok (.getfield 12, 3) := by decide +kernel
theorem dX1_payableMonths_4 : decode cX1_payableMonths 4 = .ok (.iload_n 1, 1) := by decide +kernel
theorem dX1_payableMonths_5 : decode cX1_payableMonths 5 = .ok (.invokevirtual 95, 3) := by decide +kernel
theorem dX1_payableMonths_8 : decode cX1_payableMonths 8 = .ok (.istore_n 2, 1) := by decide +kernel
theorem dX1_payableMonths_9 : decode cX1_payableMonths 9 = .ok (.iload_n 2, 1) := by decide +kernel
theorem dX1_payableMonths_10 : decode cX1_payableMonths 10 = .ok (.iconst 1, 1) := by decide +kernel
theorem dX1_payableMonths_11 : decode cX1_payableMonths 11 = .ok (.if_icmp .ge 7, 3) := by decide +kernel
theorem dX1_payableMonths_14 : decode cX1_payableMonths 14 = .ok (.iconst 0, 1) := by decide +kernel
theorem dX1_payableMonths_15 : decode cX1_payableMonths 15 = .ok (.goto 16, 3) := by decide +kernel
theorem dX1_payableMonths_18 : decode cX1_payableMonths 18 = .ok (.aload_n 0, 1) := by decide +kernel
theorem dX1_payableMonths_19 : decode cX1_payableMonths 19 = .ok (.getfield 22, 3) := by decide +kernel
theorem dX1_payableMonths_22 : decode cX1_payableMonths 22 = .ok (.aload_n 0, 1) := by decide +kernel
theorem dX1_payableMonths_23 : decode cX1_payableMonths 23 = .ok (.getfield 29, 3) := by decide +kernel
theorem dX1_payableMonths_26 : decode cX1_payableMonths 26 = .ok (.iload_n 1, 1) := by decide +kernel
theorem dX1_payableMonths_27 : decode cX1_payableMonths 27 = .ok (.iaload, 1) := by decide +kernel
theorem dX1_payableMonths_28 : decode cX1_payableMonths 28 = .ok (.iaload, 1) := by decide +kernel
theorem dX1_payableMonths_29 : decode cX1_payableMonths 29 = .ok (.iload_n 2, 1) := by decide +kernel
theorem dX1_payableMonths_30 : decode cX1_payableMonths 30 = .ok (.idiv, 1) := by decide +kernel
theorem dX1_payableMonths_31 : decode cX1_payableMonths 31 = .ok (.ireturn, 1) := by decide +kernel
theorem dX1_leaseIncome_0 : decode cX1_leaseIncome 0 = .ok (.iconst 0, 1) := by decide +kernel
theorem dX1_leaseIncome_1 : decode cX1_leaseIncome 1 = .ok (.istore_n 2, 1) := by decide +kernel
theorem dX1_leaseIncome_2 : decode cX1_leaseIncome 2 = .ok (.iconst 0, 1) := by decide +kernel
theorem dX1_leaseIncome_3 : decode cX1_leaseIncome 3 = .ok (.istore_n 3, 1) := by decide +kernel
theorem dX1_leaseIncome_4 : decode cX1_leaseIncome 4 = .ok (.iload_n 3, 1) := by decide +kernel
theorem dX1_leaseIncome_5 : decode cX1_leaseIncome 5 = .ok (.aload_n 0, 1) := by decide +kernel
theorem dX1_leaseIncome_6 : decode cX1_leaseIncome 6 = .ok (.getfield 12, 3) := by decide +kernel
theorem dX1_leaseIncome_9 : decode cX1_leaseIncome 9 = .ok (.getfield 66, 3) := by decide +kernel
theorem dX1_leaseIncome_12 : decode cX1_leaseIncome 12 = .ok (.if_icmp .ge 46, 3) := by decide +kernel
theorem dX1_leaseIncome_15 : decode cX1_leaseIncome 15 = .ok (.aload_n 0, 1) := by decide +kernel
theorem dX1_leaseIncome_16 : decode cX1_leaseIncome 16 = .ok (.iload_n 3, 1) := by decide +kernel
theorem dX1_leaseIncome_17 : decode cX1_leaseIncome 17 = .ok (.invokevirtual 89, 3) := by decide +kernel
theorem dX1_leaseIncome_20 : decode cX1_leaseIncome 20 = .ok (.ifCond .eq 32, 3) := by decide +kernel
theorem dX1_leaseIncome_23 : decode cX1_leaseIncome 23 = .ok (.aload_n 0, 1) := by decide +kernel
theorem dX1_leaseIncome_24 : decode cX1_leaseIncome 24 = .ok (.getfield 12, 3) := by decide +kernel
theorem dX1_leaseIncome_27 : decode cX1_leaseIncome 27 = .ok (.iload_n 3, 1) := by decide +kernel
theorem dX1_leaseIncome_28 : decode cX1_leaseIncome 28 = .ok (.invokevirtual 92, 3) := by decide +kernel
theorem dX1_leaseIncome_31 : decode cX1_leaseIncome 31 = .ok (.ifCond .eq 21, 3) := by decide +kernel
theorem dX1_leaseIncome_34 : decode cX1_leaseIncome 34 = .ok (.iload_n 2, 1) := by decide +kernel
theorem dX1_leaseIncome_35 : decode cX1_leaseIncome 35 = .ok (.aload_n 0, 1) := by decide +kernel
theorem dX1_leaseIncome_36 : decode cX1_leaseIncome 36 = .ok (.iload_n 3, 1) := by decide +kernel
theorem dX1_leaseIncome_37 : decode cX1_leaseIncome 37 = .ok (.iload_n 1, 1) := by decide +kernel
theorem dX1_leaseIncome_38 : decode cX1_leaseIncome 38 = .ok (.aload_n 0, 1) := by decide +kernel
theorem dX1_leaseIncome_39 : decode cX1_leaseIncome 39 = .ok (.getfield 35, 3) := by decide +kernel
theorem dX1_leaseIncome_42 : decode cX1_leaseIncome 42 = .ok (.iload_n 3, 1) := by decide +kernel
theorem dX1_leaseIncome_43 : decode cX1_leaseIncome 43 = .ok (.iaload, 1) := by decide +kernel
theorem dX1_leaseIncome_44 : decode cX1_leaseIncome 44 = .ok (.invokestatic 127, 3) := by decide +kernel
theorem dX1_leaseIncome_47 : decode cX1_leaseIncome 47 = .ok (.invokevirtual 132, 3) := by decide +kernel
theorem dX1_leaseIncome_50 : decode cX1_leaseIncome 50 = .ok (.iadd, 1) := by decide +kernel
theorem dX1_leaseIncome_51 : decode cX1_leaseIncome 51 = .ok (.istore_n 2, 1) := by decide +kernel
theorem dX1_leaseIncome_52 : decode cX1_leaseIncome 52 = .ok (.iinc 3 1, 3) := by decide +kernel
theorem dX1_leaseIncome_55 : decode cX1_leaseIncome 55 = .ok (.goto (-51), 3) := by decide +kernel
theorem dX1_leaseIncome_58 : decode cX1_leaseIncome 58 = .ok (.iload_n 2, 1) := by decide +kernel
theorem dX1_leaseIncome_59 : decode cX1_leaseIncome 59 = .ok (.ireturn, 1) := by decide +kernel
theorem dX1_incomeFrom_0 : decode cX1_incomeFrom 0 = .ok (.aload_n 0, 1) := by decide +kernel
theorem dX1_incomeFrom_1 : decode cX1_incomeFrom 1 = .ok (.iload_n 1, 1) := by decide +kernel
theorem dX1_incomeFrom_2 : decode cX1_incomeFrom 2 = .ok (.invokevirtual 135, 3) := by decide +kernel
theorem dX1_incomeFrom_5 : decode cX1_incomeFrom 5 = .ok (.istore_n 3, 1) := by decide +kernel
theorem dX1_incomeFrom_6 : decode cX1_incomeFrom 6 = .ok (.aload_n 0, 1) := by decide +kernel
theorem dX1_incomeFrom_7 : decode cX1_incomeFrom 7 = .ok (.getfield 12, 3) := by decide +kernel
theorem dX1_incomeFrom_10 : decode cX1_incomeFrom 10 = .ok (.iload_n 1, 1) := by decide +kernel
theorem dX1_incomeFrom_11 : decode cX1_incomeFrom 11 = .ok (.invokevirtual 95, 3) := by decide +kernel
theorem dX1_incomeFrom_14 : decode cX1_incomeFrom 14 = .ok (.istore 4, 2) := by decide +kernel
theorem dX1_incomeFrom_16 : decode cX1_incomeFrom 16 = .ok (.iload_n 3, 1) := by decide +kernel
theorem dX1_incomeFrom_17 : decode cX1_incomeFrom 17 = .ok (.iload_n 2, 1) := by decide +kernel
theorem dX1_incomeFrom_18 : decode cX1_incomeFrom 18 = .ok (.if_icmp .ge 17, 3) := by decide +kernel
theorem dX1_incomeFrom_21 : decode cX1_incomeFrom 21 = .ok (.iload_n 3, 1) := by decide +kernel
theorem dX1_incomeFrom_22 : decode cX1_incomeFrom 22 = .ok (.iload 4, 2) := by decide +kernel
theorem dX1_incomeFrom_24 : decode cX1_incomeFrom 24 = .ok (.imul, 1) := by decide +kernel
theorem dX1_incomeFrom_25 : decode cX1_incomeFrom 25 = .ok (.aload_n 0, 1) := by decide +kernel
theorem dX1_incomeFrom_26 : decode cX1_incomeFrom 26 = .ok (.getfield 32, 3) := by decide +kernel
theorem dX1_incomeFrom_29 : decode cX1_incomeFrom 29 = .ok (.iload_n 1, 1) := by decide +kernel
theorem dX1_incomeFrom_30 : decode cX1_incomeFrom 30 = .ok (.iaload, 1) := by decide +kernel
theorem dX1_incomeFrom_31 : decode cX1_incomeFrom 31 = .ok (.iadd, 1) := by decide +kernel
theorem dX1_incomeFrom_32 : decode cX1_incomeFrom 32 = .ok (.goto 7, 3) := by decide +kernel
theorem dX1_incomeFrom_35 : decode cX1_incomeFrom 35 = .ok (.iload_n 2, 1) := by decide +kernel
theorem dX1_incomeFrom_36 : decode cX1_incomeFrom 36 = .ok (.iload 4, 2) := by decide +kernel
theorem dX1_incomeFrom_38 : decode cX1_incomeFrom 38 = .ok (.imul, 1) := by decide +kernel
theorem dX1_incomeFrom_39 : decode cX1_incomeFrom 39 = .ok (.ireturn, 1) := by decide +kernel
theorem dX1_deposits_0 : decode cX1_deposits 0 = .ok (.iconst 0, 1) := by decide +kernel
theorem dX1_deposits_1 : decode cX1_deposits 1 = .ok (.istore_n 1, 1) := by decide +kernel
theorem dX1_deposits_2 : decode cX1_deposits 2 = .ok (.iconst 0, 1) := by decide +kernel
theorem dX1_deposits_3 : decode cX1_deposits 3 = .ok (.istore_n 2, 1) := by decide +kernel
theorem dX1_deposits_4 : decode cX1_deposits 4 = .ok (.iload_n 2, 1) := by decide +kernel
theorem dX1_deposits_5 : decode cX1_deposits 5 = .ok (.aload_n 0, 1) := by decide +kernel
theorem dX1_deposits_6 : decode cX1_deposits 6 = .ok (.getfield 12, 3) := by decide +kernel
theorem dX1_deposits_9 : decode cX1_deposits 9 = .ok (.getfield 66, 3) := by decide +kernel
theorem dX1_deposits_12 : decode cX1_deposits 12 = .ok (.if_icmp .ge 18, 3) := by decide +kernel
theorem dX1_deposits_15 : decode cX1_deposits 15 = .ok (.iload_n 1, 1) := by decide +kernel
theorem dX1_deposits_16 : decode cX1_deposits 16 = .ok (.aload_n 0, 1) := by decide +kernel
theorem dX1_deposits_17 : decode cX1_deposits 17 = .ok (.getfield 32, 3) := by decide +kernel
theorem dX1_deposits_20 : decode cX1_deposits 20 = .ok (.iload_n 2, 1) := by decide +kernel
theorem dX1_deposits_21 : decode cX1_deposits 21 = .ok (.iaload, 1) := by decide +kernel
theorem dX1_deposits_22 : decode cX1_deposits 22 = .ok (.iadd, 1) := by decide +kernel
theorem dX1_deposits_23 : decode cX1_deposits 23 = .ok (.istore_n 1, 1) := by decide +kernel
theorem dX1_deposits_24 : decode cX1_deposits 24 = .ok (.iinc 2 1, 3) := by decide +kernel
theorem dX1_deposits_27 : decode cX1_deposits 27 = .ok (.goto (-23), 3) := by decide +kernel
theorem dX1_deposits_30 : decode cX1_deposits 30 = .ok (.iload_n 1, 1) := by decide +kernel
theorem dX1_deposits_31 : decode cX1_deposits 31 = .ok (.ireturn, 1) := by decide +kernel
theorem dX1_coinsAround_0 : decode cX1_coinsAround 0 = .ok (.aload_n 0, 1) := by decide +kernel
theorem dX1_coinsAround_1 : decode cX1_coinsAround 1 = .ok (.invokevirtual 138, 3) := by decide +kernel
theorem dX1_coinsAround_4 : decode cX1_coinsAround 4 = .ok (.aload_n 0, 1) := by decide +kernel
theorem dX1_coinsAround_5 : decode cX1_coinsAround 5 = .ok (.getfield 41, 3) := by decide +kernel
theorem dX1_coinsAround_8 : decode cX1_coinsAround 8 = .ok (.iadd, 1) := by decide +kernel
theorem dX1_coinsAround_9 : decode cX1_coinsAround 9 = .ok (.istore_n 1, 1) := by decide +kernel
theorem dX1_coinsAround_10 : decode cX1_coinsAround 10 = .ok (.iconst 0, 1) := by decide +kernel
theorem dX1_coinsAround_11 : decode cX1_coinsAround 11 = .ok (.istore_n 2, 1) := by decide +kernel
theorem dX1_coinsAround_12 : decode cX1_coinsAround 12 = .ok (.iload_n 2, 1) := by decide +kernel
theorem dX1_coinsAround_13 : decode cX1_coinsAround 13 = .ok (.aload_n 0, 1) := by decide +kernel
theorem dX1_coinsAround_14 : decode cX1_coinsAround 14 = .ok (.getfield 18, 3) := by decide +kernel
theorem dX1_coinsAround_17 : decode cX1_coinsAround 17 = .ok (.if_icmp .ge 18, 3) := by decide +kernel
theorem dX1_coinsAround_20 : decode cX1_coinsAround 20 = .ok (.iload_n 1, 1) := by decide +kernel
theorem dX1_coinsAround_21 : decode cX1_coinsAround 21 = .ok (.aload_n 0, 1) := by decide +kernel
theorem dX1_coinsAround_22 : decode cX1_coinsAround 22 = .ok (.getfield 22, 3) := by decide +kernel
theorem dX1_coinsAround_25 : decode cX1_coinsAround 25 = .ok (.iload_n 2, 1) := by decide +kernel
theorem dX1_coinsAround_26 : decode cX1_coinsAround 26 = .ok (.iaload, 1) := by decide +kernel
theorem dX1_coinsAround_27 : decode cX1_coinsAround 27 = .ok (.iadd, 1) := by decide +kernel
theorem dX1_coinsAround_28 : decode cX1_coinsAround 28 = .ok (.istore_n 1, 1) := by decide +kernel
theorem dX1_coinsAround_29 : decode cX1_coinsAround 29 = .ok (.iinc 2 1, 3) := by decide +kernel
theorem dX1_coinsAround_32 : decode cX1_coinsAround 32 = .ok (.goto (-20), 3) := by decide +kernel
theorem dX1_coinsAround_35 : decode cX1_coinsAround 35 = .ok (.iload_n 1, 1) := by decide +kernel
theorem dX1_coinsAround_36 : decode cX1_coinsAround 36 = .ok (.ireturn, 1) := by decide +kernel
theorem dX1_someTenantHasTwoBenches_0 : decode cX1_someTenantHasTwoBenches 0 = .ok (.iconst 0, 1) := by decide +kernel
theorem dX1_someTenantHasTwoBenches_1 : decode cX1_someTenantHasTwoBenches 1 = .ok (.istore_n 1, 1) := by decide +kernel
theorem dX1_someTenantHasTwoBenches_2 : decode cX1_someTenantHasTwoBenches 2 = .ok (.iload_n 1, 1) := by decide +kernel
theorem dX1_someTenantHasTwoBenches_3 : decode cX1_someTenantHasTwoBenches 3 = .ok (.aload_n 0, 1) := by decide +kernel
theorem dX1_someTenantHasTwoBenches_4 : decode cX1_someTenantHasTwoBenches 4 = .ok (.getfield 12, 3) := by decide +kernel
theorem dX1_someTenantHasTwoBenches_7 : decode cX1_someTenantHasTwoBenches 7 = .ok (.getfield 66, 3) := by decide +kernel
theorem dX1_someTenantHasTwoBenches_10 : decode cX1_someTenantHasTwoBenches 10 = .ok (.if_icmp .ge 33, 3) := by decide +kernel
theorem dX1_someTenantHasTwoBenches_13 : decode cX1_someTenantHasTwoBenches 13 = .ok (.aload_n 0, 1) := by decide +kernel
theorem dX1_someTenantHasTwoBenches_14 : decode cX1_someTenantHasTwoBenches 14 = .ok (.iload_n 1, 1) := by decide +kernel
theorem dX1_someTenantHasTwoBenches_15 : decode cX1_someTenantHasTwoBenches 15 = .ok (.invokevirtual 89, 3) := by decide +kernel
theorem dX1_someTenantHasTwoBenches_18 : decode cX1_someTenantHasTwoBenches 18 = .ok (.ifCond .eq 19, 3) := by decide +kernel
theorem dX1_someTenantHasTwoBenches_21 : decode cX1_someTenantHasTwoBenches 21 = .ok (.aload_n 0, 1) := by decide +kernel
theorem dX1_someTenantHasTwoBenches_22 : decode cX1_someTenantHasTwoBenches 22 = .ok (.aload_n 0, 1) := by decide +kernel
theorem dX1_someTenantHasTwoBenches_23 : decode cX1_someTenantHasTwoBenches 23 = .ok (.getfield 29, 3) := by decide +kernel
theorem dX1_someTenantHasTwoBenches_26 : decode cX1_someTenantHasTwoBenches 26 = .ok (.iload_n 1, 1) := by decide +kernel
theorem dX1_someTenantHasTwoBenches_27 : decode cX1_someTenantHasTwoBenches 27 = .ok (.iaload, 1) := by decide +kernel
theorem dX1_someTenantHasTwoBenches_28 : decode cX1_someTenantHasTwoBenches 28 = .ok (.invokevirtual 85, 3) := by decide +kernel
theorem dX1_someTenantHasTwoBenches_31 : decode cX1_someTenantHasTwoBenches 31 = .ok (.iload_n 1, 1) := by decide +kernel
theorem dX1_someTenantHasTwoBenches_32 : decode cX1_someTenantHasTwoBenches 32 = .ok (.if_icmp .eq 5, 3) := by decide +kernel
theorem dX1_someTenantHasTwoBenches_35 : decode cX1_someTenantHasTwoBenches 35 = .ok (.iconst 1, 1) := by decide +kernel
theorem dX1_someTenantHasTwoBenches_36 : decode cX1_someTenantHasTwoBenches 36 = .ok (.ireturn, 1) := by decide +kernel
theorem dX1_someTenantHasTwoBenches_37 : decode cX1_someTenantHasTwoBenches 37 = .ok (.iinc 1 1, 3) := by decide +kernel
theorem dX1_someTenantHasTwoBenches_40 : decode cX1_someTenantHasTwoBenches 40 = .ok (.goto (-38), 3) := by decide +kernel
theorem dX1_someTenantHasTwoBenches_43 : decode cX1_someTenantHasTwoBenches 43 = .ok (.iconst 0, 1) := by decide +kernel
theorem dX1_someTenantHasTwoBenches_44 : decode cX1_someTenantHasTwoBenches 44 = .ok (.ireturn, 1) := by decide +kernel
theorem dX1_benchesAhead_0 : decode cX1_benchesAhead 0 = .ok (.iconst 0, 1) := by decide +kernel
theorem dX1_benchesAhead_1 : decode cX1_benchesAhead 1 = .ok (.istore_n 2, 1) := by decide +kernel
theorem dX1_benchesAhead_2 : decode cX1_benchesAhead 2 = .ok (.iconst 0, 1) := by decide +kernel
theorem dX1_benchesAhead_3 : decode cX1_benchesAhead 3 = .ok (.istore_n 3, 1) := by decide +kernel
theorem dX1_benchesAhead_4 : decode cX1_benchesAhead 4 = .ok (.iload_n 3, 1) := by decide +kernel
theorem dX1_benchesAhead_5 : decode cX1_benchesAhead 5 = .ok (.aload_n 0, 1) := by decide +kernel
theorem dX1_benchesAhead_6 : decode cX1_benchesAhead 6 = .ok (.getfield 12, 3) := by decide +kernel
theorem dX1_benchesAhead_9 : decode cX1_benchesAhead 9 = .ok (.getfield 66, 3) := by decide +kernel
theorem dX1_benchesAhead_12 : decode cX1_benchesAhead 12 = .ok (.if_icmp .ge 21, 3) := by decide +kernel
theorem dX1_benchesAhead_15 : decode cX1_benchesAhead 15 = .ok (.aload_n 0, 1) := by decide +kernel
theorem dX1_benchesAhead_16 : decode cX1_benchesAhead 16 = .ok (.iload_n 3, 1) := by decide +kernel
theorem dX1_benchesAhead_17 : decode cX1_benchesAhead 17 = .ok (.iload_n 1, 1) := by decide +kernel
theorem dX1_benchesAhead_18 : decode cX1_benchesAhead 18 = .ok (.invokevirtual 142, 3) := by decide +kernel
theorem dX1_benchesAhead_21 : decode cX1_benchesAhead 21 = .ok (.ifCond .eq 6, 3) := by decide +kernel
theorem dX1_benchesAhead_24 : decode cX1_benchesAhead 24 = .ok (.iinc 2 1, 3) := by decide +kernel
theorem dX1_benchesAhead_27 : decode cX1_benchesAhead 27 = .ok (.iinc 3 1, 3) := by decide +kernel
theorem dX1_benchesAhead_30 : decode cX1_benchesAhead 30 = .ok (.goto (-26), 3) := by decide +kernel
theorem dX1_benchesAhead_33 : decode cX1_benchesAhead 33 = .ok (.iload_n 2, 1) := by decide +kernel
theorem dX1_benchesAhead_34 : decode cX1_benchesAhead 34 = .ok (.ireturn, 1) := by decide +kernel
theorem dX1_benchComesFirst_0 : decode cX1_benchComesFirst 0 = .ok (.aload_n 0, 1) := by decide +kernel
theorem dX1_benchComesFirst_1 : decode cX1_benchComesFirst 1 = .ok (.getfield 12, 3) := by decide +kernel
theorem dX1_benchComesFirst_4 : decode cX1_benchComesFirst 4 = .ok (.iload_n 1, 1) := by decide +kernel
theorem dX1_benchComesFirst_5 : decode cX1_benchComesFirst 5 = .ok (.invokevirtual 95, 3) := by decide +kernel
theorem dX1_benchComesFirst_8 : decode cX1_benchComesFirst 8 = .ok (.istore_n 3, 1) := by decide +kernel
theorem dX1_benchComesFirst_9 : decode cX1_benchComesFirst 9 = .ok (.aload_n 0, 1) := by decide +kernel
theorem dX1_benchComesFirst_10 : decode cX1_benchComesFirst 10 = .ok (.getfield 12, 3) := by decide +kernel
theorem dX1_benchComesFirst_13 : decode cX1_benchComesFirst 13 = .ok (.iload_n 2, 1) := by decide +kernel
theorem dX1_benchComesFirst_14 : decode cX1_benchComesFirst 14 = .ok (.invokevirtual 95, 3) := by decide +kernel
theorem dX1_benchComesFirst_17 : decode cX1_benchComesFirst 17 = .ok (.istore 4, 2) := by decide +kernel
theorem dX1_benchComesFirst_19 : decode cX1_benchComesFirst 19 = .ok (.iload_n 3, 1) := by decide +kernel
theorem dX1_benchComesFirst_20 : decode cX1_benchComesFirst 20 = .ok (.iload 4, 2) := by decide +kernel
theorem dX1_benchComesFirst_22 : decode cX1_benchComesFirst 22 = .ok (.if_icmp .eq 15, 3) := by decide +kernel
theorem dX1_benchComesFirst_25 : decode cX1_benchComesFirst 25 = .ok (.iload_n 3, 1) := by decide +kernel
theorem dX1_benchComesFirst_26 : decode cX1_benchComesFirst 26 = .ok (.iload 4, 2) := by decide +kernel
theorem dX1_benchComesFirst_28 : decode cX1_benchComesFirst 28 = .ok (.if_icmp .ge 7, 3) := by decide +kernel
theorem dX1_benchComesFirst_31 : decode cX1_benchComesFirst 31 = .ok (.iconst 1, 1) := by decide +kernel
theorem dX1_benchComesFirst_32 : decode cX1_benchComesFirst 32 = .ok (.goto 4, 3) := by decide +kernel
theorem dX1_benchComesFirst_35 : decode cX1_benchComesFirst 35 = .ok (.iconst 0, 1) := by decide +kernel
theorem dX1_benchComesFirst_36 : decode cX1_benchComesFirst 36 = .ok (.ireturn, 1) := by decide +kernel
theorem dX1_benchComesFirst_37 : decode cX1_benchComesFirst 37 = .ok (.aload_n 0, 1) := by decide +kernel
theorem dX1_benchComesFirst_38 : decode cX1_benchComesFirst 38 = .ok (.iload_n 1, 1) := by decide +kernel
theorem dX1_benchComesFirst_39 : decode cX1_benchComesFirst 39 = .ok (.invokevirtual 89, 3) := by decide +kernel
theorem dX1_benchComesFirst_42 : decode cX1_benchComesFirst 42 = .ok (.aload_n 0, 1) := by decide +kernel
theorem dX1_benchComesFirst_43 : decode cX1_benchComesFirst 43 = .ok (.iload_n 2, 1) := by decide +kernel
theorem dX1_benchComesFirst_44 : decode cX1_benchComesFirst 44 = .ok (.invokevirtual 89, 3) := by decide +kernel
theorem dX1_benchComesFirst_47 : decode cX1_benchComesFirst 47 = .ok (.if_icmp .eq 9, 3) := by decide +kernel
theorem dX1_benchComesFirst_50 : decode cX1_benchComesFirst 50 = .ok (.aload_n 0, 1) := by decide +kernel
theorem dX1_benchComesFirst_51 : decode cX1_benchComesFirst 51 = .ok (.iload_n 2, 1) := by decide +kernel
theorem dX1_benchComesFirst_52 : decode cX1_benchComesFirst 52 = .ok (.invokevirtual 89, 3) := by decide +kernel
theorem dX1_benchComesFirst_55 : decode cX1_benchComesFirst 55 = .ok (.ireturn, 1) := by decide +kernel
theorem dX1_benchComesFirst_56 : decode cX1_benchComesFirst 56 = .ok (.iload_n 1, 1) := by decide +kernel
theorem dX1_benchComesFirst_57 : decode cX1_benchComesFirst 57 = .ok (.iload_n 2, 1) := by decide +kernel
theorem dX1_benchComesFirst_58 : decode cX1_benchComesFirst 58 = .ok (.if_icmp .ge 7, 3) := by decide +kernel
theorem dX1_benchComesFirst_61 : decode cX1_benchComesFirst 61 = .ok (.iconst 1, 1) := by decide +kernel
theorem dX1_benchComesFirst_62 : decode cX1_benchComesFirst 62 = .ok (.goto 4, 3) := by decide +kernel
theorem dX1_benchComesFirst_65 : decode cX1_benchComesFirst 65 = .ok (.iconst 0, 1) := by decide +kernel
theorem dX1_benchComesFirst_66 : decode cX1_benchComesFirst 66 = .ok (.ireturn, 1) := by decide +kernel
theorem dX1_tenantsAhead_0 : decode cX1_tenantsAhead 0 = .ok (.iconst 0, 1) := by decide +kernel
theorem dX1_tenantsAhead_1 : decode cX1_tenantsAhead 1 = .ok (.istore_n 2, 1) := by decide +kernel
theorem dX1_tenantsAhead_2 : decode cX1_tenantsAhead 2 = .ok (.iconst 0, 1) := by decide +kernel
theorem dX1_tenantsAhead_3 : decode cX1_tenantsAhead 3 = .ok (.istore_n 3, 1) := by decide +kernel
theorem dX1_tenantsAhead_4 : decode cX1_tenantsAhead 4 = .ok (.iload_n 3, 1) := by decide +kernel
theorem dX1_tenantsAhead_5 : decode cX1_tenantsAhead 5 = .ok (.aload_n 0, 1) := by decide +kernel
theorem dX1_tenantsAhead_6 : decode cX1_tenantsAhead 6 = .ok (.getfield 18, 3) := by decide +kernel
theorem dX1_tenantsAhead_9 : decode cX1_tenantsAhead 9 = .ok (.if_icmp .ge 21, 3) := by decide +kernel
theorem dX1_tenantsAhead_12 : decode cX1_tenantsAhead 12 = .ok (.aload_n 0, 1) := by decide +kernel
theorem dX1_tenantsAhead_13 : decode cX1_tenantsAhead 13 = .ok (.iload_n 3, 1) := by decide +kernel
theorem dX1_tenantsAhead_14 : decode cX1_tenantsAhead 14 = .ok (.iload_n 1, 1) := by decide +kernel
theorem dX1_tenantsAhead_15 : decode cX1_tenantsAhead 15 = .ok (.invokevirtual 146, 3) := by decide +kernel
theorem dX1_tenantsAhead_18 : decode cX1_tenantsAhead 18 = .ok (.ifCond .eq 6, 3) := by decide +kernel
theorem dX1_tenantsAhead_21 : decode cX1_tenantsAhead 21 = .ok (.iinc 2 1, 3) := by decide +kernel
theorem dX1_tenantsAhead_24 : decode cX1_tenantsAhead 24 = .ok (.iinc 3 1, 3) := by decide +kernel
theorem dX1_tenantsAhead_27 : decode cX1_tenantsAhead 27 = .ok (.goto (-23), 3) := by decide +kernel
theorem dX1_tenantsAhead_30 : decode cX1_tenantsAhead 30 = .ok (.iload_n 2, 1) := by decide +kernel
theorem dX1_tenantsAhead_31 : decode cX1_tenantsAhead 31 = .ok (.ireturn, 1) := by decide +kernel
theorem dX1_tenantComesFirst_0 : decode cX1_tenantComesFirst 0 = .ok (.aload_n 0, 1) := by decide +kernel
theorem dX1_tenantComesFirst_1 : decode cX1_tenantComesFirst 1 = .ok (.getfield 22, 3) := by decide +kernel
theorem dX1_tenantComesFirst_4 : decode cX1_tenantComesFirst 4 = .ok (.iload_n 1, 1) := by decide +kernel
theorem dX1_tenantComesFirst_5 : decode cX1_tenantComesFirst 5 = .ok (.iaload, 1) := by decide +kernel
theorem dX1_tenantComesFirst_6 : decode cX1_tenantComesFirst 6 = .ok (.aload_n 0, 1) := by decide +kernel
theorem dX1_tenantComesFirst_7 : decode cX1_tenantComesFirst 7 = .ok (.getfield 22, 3) := by decide +kernel
theorem dX1_tenantComesFirst_10 : decode cX1_tenantComesFirst 10 = .ok (.iload_n 2, 1) := by decide +kernel
theorem dX1_tenantComesFirst_11 : decode cX1_tenantComesFirst 11 = .ok (.iaload, 1) := by decide +kernel
theorem dX1_tenantComesFirst_12 : decode cX1_tenantComesFirst 12 = .ok (.if_icmp .eq 24, 3) := by decide +kernel
theorem dX1_tenantComesFirst_15 : decode cX1_tenantComesFirst 15 = .ok (.aload_n 0, 1) := by decide +kernel
theorem dX1_tenantComesFirst_16 : decode cX1_tenantComesFirst 16 = .ok (.getfield 22, 3) := by decide +kernel
theorem dX1_tenantComesFirst_19 : decode cX1_tenantComesFirst 19 = .ok (.iload_n 1, 1) := by decide +kernel
theorem dX1_tenantComesFirst_20 : decode cX1_tenantComesFirst 20 = .ok (.iaload, 1) := by decide +kernel
theorem dX1_tenantComesFirst_21 : decode cX1_tenantComesFirst 21 = .ok (.aload_n 0, 1) := by decide +kernel
theorem dX1_tenantComesFirst_22 : decode cX1_tenantComesFirst 22 = .ok (.getfield 22, 3) := by decide +kernel
theorem dX1_tenantComesFirst_25 : decode cX1_tenantComesFirst 25 = .ok (.iload_n 2, 1) := by decide +kernel
theorem dX1_tenantComesFirst_26 : decode cX1_tenantComesFirst 26 = .ok (.iaload, 1) := by decide +kernel
theorem dX1_tenantComesFirst_27 : decode cX1_tenantComesFirst 27 = .ok (.if_icmp .le 7, 3) := by decide +kernel
theorem dX1_tenantComesFirst_30 : decode cX1_tenantComesFirst 30 = .ok (.iconst 1, 1) := by decide +kernel
theorem dX1_tenantComesFirst_31 : decode cX1_tenantComesFirst 31 = .ok (.goto 4, 3) := by decide +kernel
theorem dX1_tenantComesFirst_34 : decode cX1_tenantComesFirst 34 = .ok (.iconst 0, 1) := by decide +kernel
theorem dX1_tenantComesFirst_35 : decode cX1_tenantComesFirst 35 = .ok (.ireturn, 1) := by decide +kernel
theorem dX1_tenantComesFirst_36 : decode cX1_tenantComesFirst 36 = .ok (.aload_n 0, 1) := by decide +kernel
theorem dX1_tenantComesFirst_37 : decode cX1_tenantComesFirst 37 = .ok (.getfield 26, 3) := by decide +kernel
theorem dX1_tenantComesFirst_40 : decode cX1_tenantComesFirst 40 = .ok (.iload_n 1, 1) := by decide +kernel
theorem dX1_tenantComesFirst_41 : decode cX1_tenantComesFirst 41 = .ok (.iaload, 1) := by decide +kernel
theorem dX1_tenantComesFirst_42 : decode cX1_tenantComesFirst 42 = .ok (.aload_n 0, 1) := by decide +kernel
theorem dX1_tenantComesFirst_43 : decode cX1_tenantComesFirst 43 = .ok (.getfield 26, 3) := by decide +kernel
theorem dX1_tenantComesFirst_46 : decode cX1_tenantComesFirst 46 = .ok (.iload_n 2, 1) := by decide +kernel
theorem dX1_tenantComesFirst_47 : decode cX1_tenantComesFirst 47 = .ok (.iaload, 1) := by decide +kernel
theorem dX1_tenantComesFirst_48 : decode cX1_tenantComesFirst 48 = .ok (.if_icmp .eq 24, 3) := by decide +kernel
theorem dX1_tenantComesFirst_51 : decode cX1_tenantComesFirst 51 = .ok (.aload_n 0, 1) := by decide +kernel
theorem dX1_tenantComesFirst_52 : decode cX1_tenantComesFirst 52 = .ok (.getfield 26, 3) := by decide +kernel
theorem dX1_tenantComesFirst_55 : decode cX1_tenantComesFirst 55 = .ok (.iload_n 1, 1) := by decide +kernel
theorem dX1_tenantComesFirst_56 : decode cX1_tenantComesFirst 56 = .ok (.iaload, 1) := by decide +kernel
theorem dX1_tenantComesFirst_57 : decode cX1_tenantComesFirst 57 = .ok (.aload_n 0, 1) := by decide +kernel
theorem dX1_tenantComesFirst_58 : decode cX1_tenantComesFirst 58 = .ok (.getfield 26, 3) := by decide +kernel
theorem dX1_tenantComesFirst_61 : decode cX1_tenantComesFirst 61 = .ok (.iload_n 2, 1) := by decide +kernel
theorem dX1_tenantComesFirst_62 : decode cX1_tenantComesFirst 62 = .ok (.iaload, 1) := by decide +kernel
theorem dX1_tenantComesFirst_63 : decode cX1_tenantComesFirst 63 = .ok (.if_icmp .ge 7, 3) := by decide +kernel
theorem dX1_tenantComesFirst_66 : decode cX1_tenantComesFirst 66 = .ok (.iconst 1, 1) := by decide +kernel
theorem dX1_tenantComesFirst_67 : decode cX1_tenantComesFirst 67 = .ok (.goto 4, 3) := by decide +kernel
theorem dX1_tenantComesFirst_70 : decode cX1_tenantComesFirst 70 = .ok (.iconst 0, 1) := by decide +kernel
theorem dX1_tenantComesFirst_71 : decode cX1_tenantComesFirst 71 = .ok (.ireturn, 1) := by decide +kernel
theorem dX1_tenantComesFirst_72 : decode cX1_tenantComesFirst 72 = .ok (.iload_n 1, 1) := by decide +kernel
theorem dX1_tenantComesFirst_73 : decode cX1_tenantComesFirst 73 = .ok (.iload_n 2, 1) := by decide +kernel
theorem dX1_tenantComesFirst_74 : decode cX1_tenantComesFirst 74 = .ok (.if_icmp .ge 7, 3) := by decide +kernel
theorem dX1_tenantComesFirst_77 : decode cX1_tenantComesFirst 77 = .ok (.iconst 1, 1) := by decide +kernel
theorem dX1_tenantComesFirst_78 : decode cX1_tenantComesFirst 78 = .ok (.goto 4, 3) := by decide +kernel
theorem dX1_tenantComesFirst_81 : decode cX1_tenantComesFirst 81 = .ok (.iconst 0, 1) := by decide +kernel
theorem dX1_tenantComesFirst_82 : decode cX1_tenantComesFirst 82 = .ok (.ireturn, 1) := by decide +kernel
theorem dX1_copyFrom_0 : decode cX1_copyFrom 0 = .ok (.aload_n 0, 1) := by decide +kernel
theorem dX1_copyFrom_1 : decode cX1_copyFrom 1 = .ok (.getfield 12, 3) := by decide +kernel
theorem dX1_copyFrom_4 : decode cX1_copyFrom 4 = .ok (.aload_n 1, 1) := by decide +kernel
theorem dX1_copyFrom_5 : decode cX1_copyFrom 5 = .ok (.getfield 12, 3) := by decide +kernel
theorem dX1_copyFrom_8 : decode cX1_copyFrom 8 = .ok (.invokevirtual 149, 3) := by decide +kernel
theorem dX1_copyFrom_11 : decode cX1_copyFrom 11 = .ok (.aload_n 0, 1) := by decide +kernel
theorem dX1_copyFrom_12 : decode cX1_copyFrom 12 = .ok (.aload_n 1, 1) := by decide +kernel
theorem dX1_copyFrom_13 : decode cX1_copyFrom 13 = .ok (.getfield 18, 3) := by decide +kernel
theorem dX1_copyFrom_16 : decode cX1_copyFrom 16 = .ok (.putfield 18, 3) := by decide +kernel
theorem dX1_copyFrom_19 : decode cX1_copyFrom 19 = .ok (.aload_n 1, 1) := by decide +kernel
theorem dX1_copyFrom_20 : decode cX1_copyFrom 20 = .ok (.getfield 22, 3) := by decide +kernel
theorem dX1_copyFrom_23 : decode cX1_copyFrom 23 = .ok (.iconst 0, 1) := by decide +kernel
theorem dX1_copyFrom_24 : decode cX1_copyFrom 24 = .ok (.aload_n 0, 1) := by decide +kernel
theorem dX1_copyFrom_25 : decode cX1_copyFrom 25 = .ok (.getfield 22, 3) := by decide +kernel
theorem dX1_copyFrom_28 : decode cX1_copyFrom 28 = .ok (.iconst 0, 1) := by decide +kernel
theorem dX1_copyFrom_29 : decode cX1_copyFrom 29 = .ok (.bipush 8, 2) := by decide +kernel
theorem dX1_copyFrom_31 : decode cX1_copyFrom 31 = .ok (.invokestatic 153, 3) := by decide +kernel
theorem dX1_copyFrom_34 : decode cX1_copyFrom 34 = .ok (.aload_n 1, 1) := by decide +kernel
theorem dX1_copyFrom_35 : decode cX1_copyFrom 35 = .ok (.getfield 26, 3) := by decide +kernel
theorem dX1_copyFrom_38 : decode cX1_copyFrom 38 = .ok (.iconst 0, 1) := by decide +kernel
theorem dX1_copyFrom_39 : decode cX1_copyFrom 39 = .ok (.aload_n 0, 1) := by decide +kernel
theorem dX1_copyFrom_40 : decode cX1_copyFrom 40 = .ok (.getfield 26, 3) := by decide +kernel
theorem dX1_copyFrom_43 : decode cX1_copyFrom 43 = .ok (.iconst 0, 1) := by decide +kernel
theorem dX1_copyFrom_44 : decode cX1_copyFrom 44 = .ok (.bipush 8, 2) := by decide +kernel
theorem dX1_copyFrom_46 : decode cX1_copyFrom 46 = .ok (.invokestatic 153, 3) := by decide +kernel
theorem dX1_copyFrom_49 : decode cX1_copyFrom 49 = .ok (.aload_n 1, 1) := by decide +kernel
theorem dX1_copyFrom_50 : decode cX1_copyFrom 50 = .ok (.getfield 29, 3) := by decide +kernel
theorem dX1_copyFrom_53 : decode cX1_copyFrom 53 = .ok (.iconst 0, 1) := by decide +kernel
theorem dX1_copyFrom_54 : decode cX1_copyFrom 54 = .ok (.aload_n 0, 1) := by decide +kernel
theorem dX1_copyFrom_55 : decode cX1_copyFrom 55 = .ok (.getfield 29, 3) := by decide +kernel
theorem dX1_copyFrom_58 : decode cX1_copyFrom 58 = .ok (.iconst 0, 1) := by decide +kernel
theorem dX1_copyFrom_59 : decode cX1_copyFrom 59 = .ok (.bipush 10, 2) := by decide +kernel
theorem dX1_copyFrom_61 : decode cX1_copyFrom 61 = .ok (.invokestatic 153, 3) := by decide +kernel
theorem dX1_copyFrom_64 : decode cX1_copyFrom 64 = .ok (.aload_n 1, 1) := by decide +kernel
theorem dX1_copyFrom_65 : decode cX1_copyFrom 65 = .ok (.getfield 32, 3) := by decide +kernel
theorem dX1_copyFrom_68 : decode cX1_copyFrom 68 = .ok (.iconst 0, 1) := by decide +kernel
theorem dX1_copyFrom_69 : decode cX1_copyFrom 69 = .ok (.aload_n 0, 1) := by decide +kernel
theorem dX1_copyFrom_70 : decode cX1_copyFrom 70 = .ok (.getfield 32, 3) := by decide +kernel
theorem dX1_copyFrom_73 : decode cX1_copyFrom 73 = .ok (.iconst 0, 1) := by decide +kernel
theorem dX1_copyFrom_74 : decode cX1_copyFrom 74 = .ok (.bipush 10, 2) := by decide +kernel
theorem dX1_copyFrom_76 : decode cX1_copyFrom 76 = .ok (.invokestatic 153, 3) := by decide +kernel
theorem dX1_copyFrom_79 : decode cX1_copyFrom 79 = .ok (.aload_n 1, 1) := by decide +kernel
theorem dX1_copyFrom_80 : decode cX1_copyFrom 80 = .ok (.getfield 35, 3) := by decide +kernel
theorem dX1_copyFrom_83 : decode cX1_copyFrom 83 = .ok (.iconst 0, 1) := by decide +kernel
theorem dX1_copyFrom_84 : decode cX1_copyFrom 84 = .ok (.aload_n 0, 1) := by decide +kernel
theorem dX1_copyFrom_85 : decode cX1_copyFrom 85 = .ok (.getfield 35, 3) := by decide +kernel
theorem dX1_copyFrom_88 : decode cX1_copyFrom 88 = .ok (.iconst 0, 1) := by decide +kernel
theorem dX1_copyFrom_89 : decode cX1_copyFrom 89 = .ok (.bipush 10, 2) := by decide +kernel
theorem dX1_copyFrom_91 : decode cX1_copyFrom 91 = .ok (.invokestatic 153, 3) := by decide +kernel
theorem dX1_copyFrom_94 : decode cX1_copyFrom 94 = .ok (.aload_n 0, 1) := by decide +kernel
theorem dX1_copyFrom_95 : decode cX1_copyFrom 95 = .ok (.aload_n 1, 1) := by decide +kernel
theorem dX1_copyFrom_96 : decode cX1_copyFrom 96 = .ok (.getfield 38, 3) := by decide +kernel
theorem dX1_copyFrom_99 : decode cX1_copyFrom 99 = .ok (.putfield 38, 3) := by decide +kernel
theorem dX1_copyFrom_102 : decode cX1_copyFrom 102 = .ok (.aload_n 0, 1) := by decide +kernel
theorem dX1_copyFrom_103 : decode cX1_copyFrom 103 = .ok (.aload_n 1, 1) := by decide +kernel
theorem dX1_copyFrom_104 : decode cX1_copyFrom 104 = .ok (.getfield 41, 3) := by decide +kernel
theorem dX1_copyFrom_107 : decode cX1_copyFrom 107 = .ok (.putfield 41, 3) := by decide +kernel
theorem dX1_copyFrom_110 : decode cX1_copyFrom 110 = .ok (.aload_n 0, 1) := by decide +kernel
theorem dX1_copyFrom_111 : decode cX1_copyFrom 111 = .ok (.aload_n 1, 1) := by decide +kernel
theorem dX1_copyFrom_112 : decode cX1_copyFrom 112 = .ok (.getfield 44, 3) := by decide +kernel
theorem dX1_copyFrom_115 : decode cX1_copyFrom 115 = .ok (.putfield 44, 3) := by decide +kernel
theorem dX1_copyFrom_118 : decode cX1_copyFrom 118 = .ok (.aload_n 0, 1) := by decide +kernel
theorem dX1_copyFrom_119 : decode cX1_copyFrom 119 = .ok (.aload_n 1, 1) := by decide +kernel
theorem dX1_copyFrom_120 : decode cX1_copyFrom 120 = .ok (.getfield 47, 3) := by decide +kernel
theorem dX1_copyFrom_123 : decode cX1_copyFrom 123 = .ok (.putfield 47, 3) := by decide +kernel
theorem dX1_copyFrom_126 : decode cX1_copyFrom 126 = .ok (.aload_n 0, 1) := by decide +kernel
theorem dX1_copyFrom_127 : decode cX1_copyFrom 127 = .ok (.aload_n 1, 1) := by decide +kernel
theorem dX1_copyFrom_128 : decode cX1_copyFrom 128 = .ok (.getfield 50, 3) := by decide +kernel
theorem dX1_copyFrom_131 : decode cX1_copyFrom 131 = .ok (.putfield 50, 3) := by decide +kernel
theorem dX1_copyFrom_134 : decode cX1_copyFrom 134 = .ok (.aload_n 0, 1) := by decide +kernel
theorem dX1_copyFrom_135 : decode cX1_copyFrom 135 = .ok (.aload_n 1, 1) := by decide +kernel
theorem dX1_copyFrom_136 : decode cX1_copyFrom 136 = .ok (.getfield 53, 3) := by decide +kernel
theorem dX1_copyFrom_139 : decode cX1_copyFrom 139 = .ok (.putfield 53, 3) := by decide +kernel
theorem dX1_copyFrom_142 : decode cX1_copyFrom 142 = .ok (.return_, 1) := by decide +kernel
theorem dX2_init_0 : decode cX2_init 0 = .ok (.aload_n 0, 1) := by decide +kernel
theorem dX2_init_1 : decode cX2_init 1 = .ok (.invokespecial 3, 3) := by decide +kernel
theorem dX2_init_4 : decode cX2_init 4 = .ok (.aload_n 0, 1) := by decide +kernel
theorem dX2_init_5 : decode cX2_init 5 = .ok (.bipush 8, 2) := by decide +kernel
theorem dX2_init_7 : decode cX2_init 7 = .ok (.anewarray 9, 3) := by decide +kernel
theorem dX2_init_10 : decode cX2_init 10 = .ok (.putfield 11, 3) := by decide +kernel
theorem dX2_init_13 : decode cX2_init 13 = .ok (.aload_n 0, 1) := by decide +kernel
theorem dX2_init_14 : decode cX2_init 14 = .ok (.iconst 0, 1) := by decide +kernel
theorem dX2_init_15 : decode cX2_init 15 = .ok (.putfield 17, 3) := by decide +kernel
theorem dX2_init_18 : decode cX2_init 18 = .ok (.aload_n 0, 1) := by decide +kernel
theorem dX2_init_19 : decode cX2_init 19 = .ok (.iconst 0, 1) := by decide +kernel
theorem dX2_init_20 : decode cX2_init 20 = .ok (.putfield 21, 3) := by decide +kernel
theorem dX2_init_23 : decode cX2_init 23 = .ok (.iconst 0, 1) := by decide +kernel
theorem dX2_init_24 : decode cX2_init 24 = .ok (.istore_n 1, 1) := by decide +kernel
theorem dX2_init_25 : decode cX2_init 25 = .ok (.iload_n 1, 1) := by decide +kernel
theorem dX2_init_26 : decode cX2_init 26 = .ok (.bipush 8, 2) := by decide +kernel
theorem dX2_init_28 : decode cX2_init 28 = .ok (.if_icmp .ge 22, 3) := by decide +kernel
theorem dX2_init_31 : decode cX2_init 31 = .ok (.aload_n 0, 1) := by decide +kernel
theorem dX2_init_32 : decode cX2_init 32 = .ok (.getfield 11, 3) := by decide +kernel
theorem dX2_init_35 : decode cX2_init 35 = .ok (.iload_n 1, 1) := by decide +kernel
theorem dX2_init_36 : decode cX2_init 36 = .ok (.new 9, 3) := by decide +kernel
theorem dX2_init_39 : decode cX2_init 39 = .ok (.dup, 1) := by decide +kernel
theorem dX2_init_40 : decode cX2_init 40 = .ok (.invokespecial 24, 3) := by decide +kernel
theorem dX2_init_43 : decode cX2_init 43 = .ok (.aastore, 1) := by decide +kernel
theorem dX2_init_44 : decode cX2_init 44 = .ok (.iinc 1 1, 3) := by decide +kernel
theorem dX2_init_47 : decode cX2_init 47 = .ok (.goto (-22), 3) := by decide +kernel
theorem dX2_init_50 : decode cX2_init 50 = .ok (.return_, 1) := by decide +kernel
theorem dX2_remember_0 : decode cX2_remember 0 = .ok (.aload_n 0, 1) := by decide +kernel
theorem dX2_remember_1 : decode cX2_remember 1 = .ok (.getfield 11, 3) := by decide +kernel
theorem dX2_remember_4 : decode cX2_remember 4 = .ok (.aload_n 0, 1) := by decide +kernel
theorem dX2_remember_5 : decode cX2_remember 5 = .ok (.getfield 17, 3) := by decide +kernel
theorem dX2_remember_8 : decode cX2_remember 8 = .ok (.aaload, 1) := by decide +kernel
theorem dX2_remember_9 : decode cX2_remember 9 = .ok (.astore_n 2, 1) := by decide +kernel
theorem dX2_remember_10 : decode cX2_remember 10 = .ok (.aload_n 2, 1) := by decide +kernel
theorem dX2_remember_11 : decode cX2_remember 11 = .ok (.ifnull 8, 3) := by decide +kernel
theorem dX2_remember_14 : decode cX2_remember 14 = .ok (.aload_n 2, 1) := by decide +kernel
theorem dX2_remember_15 : decode cX2_remember 15 = .ok (.aload_n 1, 1) := by decide +kernel
theorem dX2_remember_16 : decode cX2_remember 16 = .ok (.invokevirtual 25, 3) := by decide +kernel
theorem dX2_remember_19 : decode cX2_remember 19 = .ok (.aload_n 0, 1) := by decide +kernel
theorem dX2_remember_20 : decode cX2_remember 20 = .ok (.aload_n 0, 1) := by decide +kernel
theorem dX2_remember_21 : decode cX2_remember 21 = .ok (.getfield 17, 3) := by decide +kernel
theorem dX2_remember_24 : decode cX2_remember 24 = .ok (.iconst 1, 1) := by decide +kernel
theorem dX2_remember_25 : decode cX2_remember 25 = .ok (.iadd, 1) := by decide +kernel
theorem dX2_remember_26 : decode cX2_remember 26 = .ok (.bipush 8, 2) := by decide +kernel
theorem dX2_remember_28 : decode cX2_remember 28 = .ok (.irem, 1) := by decide +kernel
theorem dX2_remember_29 : decode cX2_remember 29 = .ok (.putfield 17, 3) := by decide +kernel
theorem dX2_remember_32 : decode cX2_remember 32 = .ok (.aload_n 0, 1) := by decide +kernel
theorem dX2_remember_33 : decode cX2_remember 33 = .ok (.aload_n 0, 1) := by decide +kernel
theorem dX2_remember_34 : decode cX2_remember 34 = .ok (.getfield 21, 3) := by decide +kernel
theorem dX2_remember_37 : decode cX2_remember 37 = .ok (.iconst 1, 1) := by decide +kernel
theorem dX2_remember_38 : decode cX2_remember 38 = .ok (.iadd, 1) := by decide +kernel
theorem dX2_remember_39 : decode cX2_remember 39 = .ok (.bipush 8, 2) := by decide +kernel
theorem dX2_remember_41 : decode cX2_remember 41 = .ok (.invokestatic 29, 3) := by decide +kernel
theorem dX2_remember_44 : decode cX2_remember 44 = .ok (.putfield 21, 3) := by decide +kernel
theorem dX2_remember_47 : decode cX2_remember 47 = .ok (.return_, 1) := by decide +kernel
theorem dX2_takeBack_0 : decode cX2_takeBack 0 = .ok (.aload_n 0, 1) := by decide +kernel
theorem dX2_takeBack_1 : decode cX2_takeBack 1 = .ok (.aload_n 0, 1) := by decide +kernel
theorem dX2_takeBack_2 : decode cX2_takeBack 2 = .ok (.getfield 17, 3) := by decide +kernel
theorem dX2_takeBack_5 : decode cX2_takeBack 5 = .ok (.bipush 8, 2) := by decide +kernel
theorem dX2_takeBack_7 : decode cX2_takeBack 7 = .ok (.iadd, 1) := by decide +kernel
theorem dX2_takeBack_8 : decode cX2_takeBack 8 = .ok (.iconst 1, 1) := by decide +kernel
theorem dX2_takeBack_9 : decode cX2_takeBack 9 = .ok (.isub, 1) := by decide +kernel
theorem dX2_takeBack_10 : decode cX2_takeBack 10 = .ok (.bipush 8, 2) := by decide +kernel
theorem dX2_takeBack_12 : decode cX2_takeBack 12 = .ok (.irem, 1) := by decide +kernel
theorem dX2_takeBack_13 : decode cX2_takeBack 13 = .ok (.putfield 17, 3) := by decide +kernel
theorem dX2_takeBack_16 : decode cX2_takeBack 16 = .ok (.aload_n 0, 1) := by decide +kernel
theorem dX2_takeBack_17 : decode cX2_takeBack 17 = .ok (.dup, 1) := by decide +kernel
theorem dX2_takeBack_18 : decode cX2_takeBack 18 = .ok (.getfield 21, 3) := by decide +kernel
theorem dX2_takeBack_21 : decode cX2_takeBack 21 = .ok (.iconst 1, 1) := by decide +kernel
theorem dX2_takeBack_22 : decode cX2_takeBack 22 = .ok (.isub, 1) := by decide +kernel
theorem dX2_takeBack_23 : decode cX2_takeBack 23 = .ok (.putfield 21, 3) := by decide +kernel
theorem dX2_takeBack_26 : decode cX2_takeBack 26 = .ok (.aload_n 0, 1) := by decide +kernel
theorem dX2_takeBack_27 : decode cX2_takeBack 27 = .ok (.getfield 11, 3) := by decide +kernel
theorem dX2_takeBack_30 : decode cX2_takeBack 30 = .ok (.aload_n 0, 1) := by decide +kernel
theorem dX2_takeBack_31 : decode cX2_takeBack 31 = .ok (.getfield 17, 3) := by decide +kernel
theorem dX2_takeBack_34 : decode cX2_takeBack 34 = .ok (.aaload, 1) := by decide +kernel
theorem dX2_takeBack_35 : decode cX2_takeBack 35 = .ok (.astore_n 2, 1) := by decide +kernel
theorem dX2_takeBack_36 : decode cX2_takeBack 36 = .ok (.aload_n 2, 1) := by decide +kernel
theorem dX2_takeBack_37 : decode cX2_takeBack 37 = .ok (.ifnull 8, 3) := by decide +kernel
theorem dX2_takeBack_40 : decode cX2_takeBack 40 = .ok (.aload_n 1, 1) := by decide +kernel
theorem dX2_takeBack_41 : decode cX2_takeBack 41 = .ok (.aload_n 2, 1) := by decide +kernel
theorem dX2_takeBack_42 : decode cX2_takeBack 42 = .ok (.invokevirtual 25, 3) := by decide +kernel
theorem dX2_takeBack_45 : decode cX2_takeBack 45 = .ok (.return_, 1) := by decide +kernel
theorem dX3_init_0 : decode cX3_init 0 = .ok (.aload_n 0, 1) := by decide +kernel
theorem dX3_init_1 : decode cX3_init 1 = .ok (.invokespecial 3, 3) := by decide +kernel
theorem dX3_init_4 : decode cX3_init 4 = .ok (.aload_n 0, 1) := by decide +kernel
theorem dX3_init_5 : decode cX3_init 5 = .ok (.bipush 60, 2) := by decide +kernel
theorem dX3_init_7 : decode cX3_init 7 = .ok (.newarray .char, 2) := by decide +kernel
theorem dX3_init_9 : decode cX3_init 9 = .ok (.putfield 9, 3) := by decide +kernel
theorem dX3_init_12 : decode cX3_init 12 = .ok (.aload_n 0, 1) := by decide +kernel
theorem dX3_init_13 : decode cX3_init 13 = .ok (.iconst 0, 1) := by decide +kernel
theorem dX3_init_14 : decode cX3_init 14 = .ok (.putfield 15, 3) := by decide +kernel
theorem dX3_init_17 : decode cX3_init 17 = .ok (.aload_n 0, 1) := by decide +kernel
theorem dX3_init_18 : decode cX3_init 18 = .ok (.iconst 0, 1) := by decide +kernel
theorem dX3_init_19 : decode cX3_init 19 = .ok (.putfield 19, 3) := by decide +kernel
theorem dX3_init_22 : decode cX3_init 22 = .ok (.aload_n 0, 1) := by decide +kernel
theorem dX3_init_23 : decode cX3_init 23 = .ok (.getstatic 22, 3) := by decide +kernel
theorem dX3_init_26 : decode cX3_init 26 = .ok (.putfield 28, 3) := by decide +kernel
theorem dX3_init_29 : decode cX3_init 29 = .ok (.aload_n 0, 1) := by decide +kernel
theorem dX3_init_30 : decode cX3_init 30 = .ok (.iconst 3, 1) := by decide +kernel
theorem dX3_init_31 : decode cX3_init 31 = .ok (.newarray .int, 2) := by decide +kernel
theorem dX3_init_33 : decode cX3_init 33 = .ok (.putfield 31, 3) := by decide +kernel
theorem dX3_init_36 : decode cX3_init 36 = .ok (.return_, 1) := by decide +kernel
theorem dX3_countCommands_0 : decode cX3_countCommands 0 = .ok (.aload_n 0, 1) := by decide +kernel
theorem dX3_countCommands_1 : decode cX3_countCommands 1 = .ok (.iconst 0, 1) := by decide +kernel
theorem dX3_countCommands_2 : decode cX3_countCommands 2 = .ok (.putfield 19, 3) := by decide +kernel
theorem dX3_countCommands_5 : decode cX3_countCommands 5 = .ok (.iconst 1, 1) := by decide +kernel
theorem dX3_countCommands_6 : decode cX3_countCommands 6 = .ok (.istore_n 1, 1) := by decide +kernel
theorem dX3_countCommands_7 : decode cX3_countCommands 7 = .ok (.iload_n 1, 1) := by decide +kernel
theorem dX3_countCommands_8 : decode cX3_countCommands 8 = .ok (.bipush 60, 2) := by decide +kernel
theorem dX3_countCommands_10 : decode cX3_countCommands 10 = .ok (.if_icmp .gt 42, 3) := by decide +kernel
theorem dX3_countCommands_13 : decode cX3_countCommands 13 = .ok (.aload_n 0, 1) := by decide +kernel
theorem dX3_countCommands_14 : decode cX3_countCommands 14 = .ok (.invokevirtual 35, 3) := by decide +kernel
theorem dX3_countCommands_17 : decode cX3_countCommands 17 = .ok (.ifCond .ne 5, 3) := by decide +kernel
theorem dX3_countCommands_20 : decode cX3_countCommands 20 = .ok (.iconst (-1), 1) := by decide +kernel
theorem dX3_countCommands_21 : decode cX3_countCommands 21 = .ok (.ireturn, 1) := by decide +kernel
theorem dX3_countCommands_22 : decode cX3_countCommands 22 = .ok (.aload_n 0, 1) := by decide +kernel
theorem dX3_countCommands_23 : decode cX3_countCommands 23 = .ok (.getfield 19, 3) := by decide +kernel
theorem dX3_countCommands_26 : decode cX3_countCommands 26 = .ok (.aload_n 0, 1) := by decide +kernel
theorem dX3_countCommands_27 : decode cX3_countCommands 27 = .ok (.getfield 15, 3) := by decide +kernel
theorem dX3_countCommands_30 : decode cX3_countCommands 30 = .ok (.if_icmp .ne 5, 3) := by decide +kernel
theorem dX3_countCommands_33 : decode cX3_countCommands 33 = .ok (.iload_n 1, 1) := by decide +kernel
theorem dX3_countCommands_34 : decode cX3_countCommands 34 = .ok (.ireturn, 1) := by decide +kernel
theorem dX3_countCommands_35 : decode cX3_countCommands 35 = .ok (.aload_n 0, 1) := by decide +kernel
theorem dX3_countCommands_36 : decode cX3_countCommands 36 = .ok (.bipush 59, 2) := by decide +kernel
theorem dX3_countCommands_38 : decode cX3_countCommands 38 = .ok (.invokevirtual 39, 3) := by decide +kernel
theorem dX3_countCommands_41 : decode cX3_countCommands 41 = .ok (.ifCond .ne 5, 3) := by decide +kernel
theorem dX3_countCommands_44 : decode cX3_countCommands 44 = .ok (.iconst (-1), 1) := by decide +kernel
theorem dX3_countCommands_45 : decode cX3_countCommands 45 = .ok (.ireturn, 1) := by decide +kernel
theorem dX3_countCommands_46 : decode cX3_countCommands 46 = .ok (.iinc 1 1, 3) := by decide +kernel
theorem dX3_countCommands_49 : decode cX3_countCommands 49 = .ok (.goto (-42), 3) := by decide +kernel
theorem dX3_countCommands_52 : decode cX3_countCommands 52 = .ok (.iconst (-1), 1) := by decide +kernel
theorem dX3_countCommands_53 : decode cX3_countCommands 53 = .ok (.ireturn, 1) := by decide +kernel
theorem dX3_readCommand_0 : decode cX3_readCommand 0 = .ok (.aload_n 0, 1) := by decide +kernel
theorem dX3_readCommand_1 : decode cX3_readCommand 1 = .ok (.invokevirtual 43, 3) := by decide +kernel
theorem dX3_readCommand_4 : decode cX3_readCommand 4 = .ok (.ifCond .eq 14, 3) := by decide +kernel
theorem dX3_readCommand_7 : decode cX3_readCommand 7 = .ok (.aload_n 0, 1) := by decide +kernel
theorem dX3_readCommand_8 : decode cX3_readCommand 8 = .ok (.invokevirtual 46, 3) := by decide +kernel
theorem dX3_readCommand_11 : decode cX3_readCommand 11 = .ok (.ifCond .eq 7, 3) := by decide +kernel
theorem dX3_readCommand_14 : decode cX3_readCommand 14 = .ok (.iconst 1, 1) := by decide +kernel
theorem dX3_readCommand_15 : decode cX3_readCommand 15 = .ok (.goto 4, 3) := by decide +kernel
theorem dX3_readCommand_18 : decode cX3_readCommand 18 = .ok (.iconst 0, 1) := by decide +kernel
theorem dX3_readCommand_19 : decode cX3_readCommand 19 = .ok (.ireturn, 1) := by decide +kernel
theorem dX3_readSign_0 : decode cX3_readSign 0 = .ok (.aload_n 0, 1) := by decide +kernel
theorem dX3_readSign_1 : decode cX3_readSign 1 = .ok (.getfield 19, 3) := by decide +kernel
theorem dX3_readSign_4 : decode cX3_readSign 4 = .ok (.aload_n 0, 1) := by decide +kernel
theorem dX3_readSign_5 : decode cX3_readSign 5 = .ok (.getfield 15, 3) := by decide +kernel
theorem dX3_readSign_8 : decode cX3_readSign 8 = .ok (.if_icmp .ge 16, 3) := by decide +kernel
theorem dX3_readSign_11 : decode cX3_readSign 11 = .ok (.aload_n 0, 1) := by decide +kernel
theorem dX3_readSign_12 : decode cX3_readSign 12 = .ok (.getfield 9, 3) := by decide +kernel
theorem dX3_readSign_15 : decode cX3_readSign 15 = .ok (.aload_n 0, 1) := by decide +kernel
theorem dX3_readSign_16 : decode cX3_readSign 16 = .ok (.getfield 19, 3) := by decide +kernel
theorem dX3_readSign_19 : decode cX3_readSign 19 = .ok (.caload, 1) := by decide +kernel
theorem dX3_readSign_20 : decode cX3_readSign 20 = .ok (.iload_n 1, 1) := by decide +kernel
theorem dX3_readSign_21 : decode cX3_readSign 21 = .ok (.if_icmp .eq 5, 3) := by decide +kernel
theorem dX3_readSign_24 : decode cX3_readSign 24 = .ok (.iconst 0, 1) := by decide +kernel
theorem dX3_readSign_25 : decode cX3_readSign 25 = .ok (.ireturn, 1) := by decide +kernel
theorem dX3_readSign_26 : decode cX3_readSign 26 = .ok (.aload_n 0, 1) := by decide +kernel
theorem dX3_readSign_27 : decode cX3_readSign 27 = .ok (.dup, 1) := by decide +kernel
theorem dX3_readSign_28 : decode cX3_readSign 28 = .ok (.getfield 19, 3) := by decide +kernel
theorem dX3_readSign_31 : decode cX3_readSign 31 = .ok (.iconst 1, 1) := by decide +kernel
theorem dX3_readSign_32 : decode cX3_readSign 32 = .ok (.iadd, 1) := by decide +kernel
theorem dX3_readSign_33 : decode cX3_readSign 33 = .ok (.putfield 19, 3) := by decide +kernel
theorem dX3_readSign_36 : decode cX3_readSign 36 = .ok (.iconst 1, 1) := by decide +kernel
theorem dX3_readSign_37 : decode cX3_readSign 37 = .ok (.ireturn, 1) := by decide +kernel
theorem dX3_readWord_0 : decode cX3_readWord 0 = .ok (.iconst 0, 1) := by decide +kernel
theorem dX3_readWord_1 : decode cX3_readWord 1 = .ok (.istore_n 1, 1) := by decide +kernel
theorem dX3_readWord_2 : decode cX3_readWord 2 = .ok (.getstatic 49, 3) := by decide +kernel
theorem dX3_readWord_5 : decode cX3_readWord 5 = .ok (.astore_n 2, 1) := by decide +kernel
theorem dX3_readWord_6 : decode cX3_readWord 6 = .ok (.aload_n 2, 1) := by decide +kernel
theorem dX3_readWord_7 : decode cX3_readWord 7 = .ok (.arraylength, 1) := by decide +kernel
theorem dX3_readWord_8 : decode cX3_readWord 8 = .ok (.istore_n 3, 1) := by decide +kernel
theorem dX3_readWord_9 : decode cX3_readWord 9 = .ok (.iconst 0, 1) := by decide +kernel
theorem dX3_readWord_10 : decode cX3_readWord 10 = .ok (.istore 4, 2) := by decide +kernel
theorem dX3_readWord_12 : decode cX3_readWord 12 = .ok (.iload 4, 2) := by decide +kernel
theorem dX3_readWord_14 : decode cX3_readWord 14 = .ok (.iload_n 3, 1) := by decide +kernel
theorem dX3_readWord_15 : decode cX3_readWord 15 = .ok (.if_icmp .ge 65, 3) := by decide +kernel
theorem dX3_readWord_18 : decode cX3_readWord 18 = .ok (.aload_n 2, 1) := by decide +kernel
theorem dX3_readWord_19 : decode cX3_readWord 19 = .ok (.iload 4, 2) := by decide +kernel
theorem dX3_readWord_21 : decode cX3_readWord 21 = .ok (.aaload, 1) := by decide +kernel
theorem dX3_readWord_22 : decode cX3_readWord 22 = .ok (.astore 5, 2) := by decide +kernel
theorem dX3_readWord_24 : decode cX3_readWord 24 = .ok (.aload_n 0, 1) := by decide +kernel
theorem dX3_readWord_25 : decode cX3_readWord 25 = .ok (.aload 5, 2) := by decide +kernel
theorem dX3_readWord_27 : decode cX3_readWord 27 = .ok (.getfield 53, 3) := by decide +kernel
theorem dX3_readWord_30 : decode cX3_readWord 30 = .ok (.invokevirtual 57, 3) := by decide +kernel
theorem dX3_readWord_33 : decode cX3_readWord 33 = .ok (.istore 6, 2) := by decide +kernel
theorem dX3_readWord_35 : decode cX3_readWord 35 = .ok (.iload_n 1, 1) := by decide +kernel
theorem dX3_readWord_36 : decode cX3_readWord 36 = .ok (.iload 6, 2) := by decide +kernel
theorem dX3_readWord_38 : decode cX3_readWord 38 = .ok (.invokestatic 61, 3) := by decide +kernel
theorem dX3_readWord_41 : decode cX3_readWord 41 = .ok (.istore_n 1, 1) := by decide +kernel
theorem dX3_readWord_42 : decode cX3_readWord 42 = .ok (.iload 6, 2) := by decide +kernel
theorem dX3_readWord_44 : decode cX3_readWord 44 = .ok (.aload 5, 2) := by decide +kernel
theorem dX3_readWord_46 : decode cX3_readWord 46 = .ok (.getfield 53, 3) := by decide +kernel
theorem dX3_readWord_49 : decode cX3_readWord 49 = .ok (.invokevirtual 67, 3) := by decide +kernel
theorem dX3_readWord_52 : decode cX3_readWord 52 = .ok (.if_icmp .ne 22, 3) := by decide +kernel
theorem dX3_readWord_55 : decode cX3_readWord 55 = .ok (.aload_n 0, 1) := by decide +kernel
theorem dX3_readWord_56 : decode cX3_readWord 56 = .ok (.aload 5, 2) := by decide +kernel
theorem dX3_readWord_58 : decode cX3_readWord 58 = .ok (.putfield 28, 3) := by decide +kernel
theorem dX3_readWord_61 : decode cX3_readWord 61 = .ok (.aload_n 0, 1) := by decide +kernel
theorem dX3_readWord_62 : decode cX3_readWord 62 = .ok (.dup, 1) := by decide +kernel
theorem dX3_readWord_63 : decode cX3_readWord 63 = .ok (.getfield 19, 3) := by decide +kernel
theorem dX3_readWord_66 : decode cX3_readWord 66 = .ok (.iload 6, 2) := by decide +kernel
theorem dX3_readWord_68 : decode cX3_readWord 68 = .ok (.iadd, 1) := by decide +kernel
theorem dX3_readWord_69 : decode cX3_readWord 69 = .ok (.putfield 19, 3) := by decide +kernel
theorem dX3_readWord_72 : decode cX3_readWord 72 = .ok (.iconst 1, 1) := by decide +kernel
theorem dX3_readWord_73 : decode cX3_readWord 73 = .ok (.ireturn, 1) := by decide +kernel
theorem dX3_readWord_74 : decode cX3_readWord 74 = .ok (.iinc 4 1, 3) := by decide +kernel
theorem dX3_readWord_77 : decode cX3_readWord 77 = .ok (.goto (-65), 3) := by decide +kernel
theorem dX3_readWord_80 : decode cX3_readWord 80 = .ok (.aload_n 0, 1) := by decide +kernel
theorem dX3_readWord_81 : decode cX3_readWord 81 = .ok (.dup, 1) := by decide +kernel
theorem dX3_readWord_82 : decode cX3_readWord 82 = .ok (.getfield 19, 3) := by decide +kernel
theorem dX3_readWord_85 : decode cX3_readWord 85 = .ok (.iload_n 1, 1) := by decide +kernel
theorem dX3_readWord_86 : decode cX3_readWord 86 = .ok (.iadd, 1) := by decide +kernel
theorem dX3_readWord_87 : decode cX3_readWord 87 = .ok (.putfield 19, 3) := by decide +kernel
theorem dX3_readWord_90 : decode cX3_readWord 90 = .ok (.iconst 0, 1) := by decide +kernel
theorem dX3_readWord_91 : decode cX3_readWord 91 = .ok (.ireturn, 1) := by decide +kernel
theorem dX3_matchingLetters_0 : decode cX3_matchingLetters 0 = .ok (.iconst 0, 1) := by decide +kernel
theorem dX3_matchingLetters_1 : decode cX3_matchingLetters 1 = .ok (.istore_n 2, 1) := by decide +kernel
theorem dX3_matchingLetters_2 : decode cX3_matchingLetters 2 = .ok (.iload_n 2, 1) := by decide +kernel
theorem dX3_matchingLetters_3 : decode cX3_matchingLetters 3 = .ok (.aload_n 1, 1) := by decide +kernel
theorem dX3_matchingLetters_4 : decode cX3_matchingLetters 4 = .ok (.invokevirtual 67, 3) := by decide +kernel
theorem dX3_matchingLetters_7 : decode cX3_matchingLetters 7 = .ok (.if_icmp .ge 41, 3) := by decide +kernel
theorem dX3_matchingLetters_10 : decode cX3_matchingLetters 10 = .ok (.aload_n 0, 1) := by decide +kernel
theorem dX3_matchingLetters_11 : decode cX3_matchingLetters 11 = .ok (.getfield 19, 3) := by decide +kernel
theorem dX3_matchingLetters_14 : decode cX3_matchingLetters 14 = .ok (.iload_n 2, 1) := by decide +kernel
theorem dX3_matchingLetters_15 : decode cX3_matchingLetters 15 = .ok (.iadd, 1) := by decide +kernel
theorem dX3_matchingLetters_16 : decode cX3_matchingLetters 16 = .ok (.aload_n 0, 1) := by decide +kernel
theorem dX3_matchingLetters_17 : decode cX3_matchingLetters 17 = .ok (.getfield 15, 3) := by decide +kernel
theorem dX3_matchingLetters_20 : decode cX3_matchingLetters 20 = .ok (.if_icmp .ge 28, 3) := by decide +kernel
theorem dX3_matchingLetters_23 : decode cX3_matchingLetters 23 = .ok (.aload_n 0, 1) := by decide +kernel
theorem dX3_matchingLetters_24 : decode cX3_matchingLetters 24 = .ok (.getfield 9, 3) := by decide +kernel
theorem dX3_matchingLetters_27 : decode cX3_matchingLetters 27 = .ok (.aload_n 0, 1) := by decide +kernel
theorem dX3_matchingLetters_28 : decode cX3_matchingLetters 28 = .ok (.getfield 19, 3) := by decide +kernel
theorem dX3_matchingLetters_31 : decode cX3_matchingLetters 31 = .ok (.iload_n 2, 1) := by decide +kernel
theorem dX3_matchingLetters_32 : decode cX3_matchingLetters 32 = .ok (.iadd, 1) := by decide +kernel
theorem dX3_matchingLetters_33 : decode cX3_matchingLetters 33 = .ok (.caload, 1) := by decide +kernel
theorem dX3_matchingLetters_34 : decode cX3_matchingLetters 34 = .ok (.aload_n 1, 1) := by decide +kernel
theorem dX3_matchingLetters_35 : decode cX3_matchingLetters 35 = .ok (.iload_n 2, 1) := by decide +kernel
theorem dX3_matchingLetters_36 : decode cX3_matchingLetters 36 = .ok (.invokevirtual 72, 3) := by decide +kernel
theorem dX3_matchingLetters_39 : decode cX3_matchingLetters 39 = .ok (.if_icmp .ne 9, 3) := by decide +kernel
theorem dX3_matchingLetters_42 : decode cX3_matchingLetters 42 = .ok (.iinc 2 1, 3) := by decide +kernel
theorem dX3_matchingLetters_45 : decode cX3_matchingLetters 45 = .ok (.goto (-43), 3) := by decide +kernel
theorem dX3_matchingLetters_48 : decode cX3_matchingLetters 48 = .ok (.iload_n 2, 1) := by decide +kernel
theorem dX3_matchingLetters_49 : decode cX3_matchingLetters 49 = .ok (.ireturn, 1) := by decide +kernel
theorem dX3_readArguments_0 : decode cX3_readArguments 0 = .ok (.aload_n 0, 1) := by decide +kernel
theorem dX3_readArguments_1 : decode cX3_readArguments 1 = .ok (.getfield 28, 3) := by decide +kernel
theorem dX3_readArguments_4 : decode cX3_readArguments 4 = .ok (.getfield 76, 3) := by decide +kernel
theorem dX3_readArguments_7 : decode cX3_readArguments 7 = .ok (.iconst 1, 1) := by decide +kernel
theorem dX3_readArguments_8 : decode cX3_readArguments 8 = .ok (.isub, 1) := by decide +kernel
theorem dX3_readArguments_9 : decode cX3_readArguments 9 = .ok (.istore_n 1, 1) := by decide +kernel
theorem dX3_readArguments_10 : decode cX3_readArguments 10 = .ok (.iconst 0, 1) := by decide +kernel
theorem dX3_readArguments_11 : decode cX3_readArguments 11 = .ok (.istore_n 2, 1) := by decide +kernel
theorem dX3_readArguments_12 : decode cX3_readArguments 12 = .ok (.iload_n 2, 1) := by decide +kernel
theorem dX3_readArguments_13 : decode cX3_readArguments 13 = .ok (.iload_n 1, 1) := by decide +kernel
theorem dX3_readArguments_14 : decode cX3_readArguments 14 = .ok (.if_icmp .gt 94, 3) := by decide +kernel
theorem dX3_readArguments_17 : decode cX3_readArguments 17 = .ok (.iload_n 2, 1) := by decide +kernel
theorem dX3_readArguments_18 : decode cX3_readArguments 18 = .ok (.aload_n 0, 1) := by decide +kernel
theorem dX3_readArguments_19 : decode cX3_readArguments 19 = .ok (.getfield 31, 3) := by decide +kernel
theorem dX3_readArguments_22 : decode cX3_readArguments 22 = .ok (.arraylength, 1) := by decide +kernel
theorem dX3_readArguments_23 : decode cX3_readArguments 23 = .ok (.if_icmp .ge 85, 3) := by decide +kernel
theorem dX3_readArguments_26 : decode cX3_readArguments 26 = .ok (.iload_n 2, 1) := by decide +kernel
theorem dX3_readArguments_27 : decode cX3_readArguments 27 = .ok (.ifCond .le 14, 3) := by decide +kernel
theorem dX3_readArguments_30 : decode cX3_readArguments 30 = .ok (.aload_n 0, 1) := by decide +kernel
theorem dX3_readArguments_31 : decode cX3_readArguments 31 = .ok (.bipush 32, 2) := by decide +kernel
theorem dX3_readArguments_33 : decode cX3_readArguments 33 = .ok (.invokevirtual 39, 3) := by decide +kernel
theorem dX3_readArguments_36 : decode cX3_readArguments 36 = .ok (.ifCond .ne 5, 3) := by decide +kernel
theorem dX3_readArguments_39 : decode cX3_readArguments 39 = .ok (.iconst 0, 1) := by decide +kernel
theorem dX3_readArguments_40 : decode cX3_readArguments 40 = .ok (.ireturn, 1) := by decide +kernel
theorem dX3_readArguments_41 : decode cX3_readArguments 41 = .ok (.aload_n 0, 1) := by decide +kernel
theorem dX3_readArguments_42 : decode cX3_readArguments 42 = .ok (.invokevirtual 79, 3) := by decide +kernel
theorem dX3_readArguments_45 : decode cX3_readArguments 45 = .ok (.ifCond .ne 5, 3) := by decide +kernel
theorem dX3_readArguments_48 : decode cX3_readArguments 48 = .ok (.iconst 0, 1) := by decide +kernel
theorem dX3_readArguments_49 : decode cX3_readArguments 49 = .ok (.ireturn, 1) := by decide +kernel
theorem dX3_readArguments_50 : decode cX3_readArguments 50 = .ok (.aload_n 0, 1) := by decide +kernel
theorem dX3_readArguments_51 : decode cX3_readArguments 51 = .ok (.getfield 31, 3) := by decide +kernel
theorem dX3_readArguments_54 : decode cX3_readArguments 54 = .ok (.iload_n 2, 1) := by decide +kernel
theorem dX3_readArguments_55 : decode cX3_readArguments 55 = .ok (.aload_n 0, 1) := by decide +kernel
theorem dX3_readArguments_56 : decode cX3_readArguments 56 = .ok (.invokevirtual 82, 3) := by decide +kernel
theorem dX3_readArguments_59 : decode cX3_readArguments 59 = .ok (.iastore, 1) := by decide +kernel
theorem dX3_readArguments_60 : decode cX3_readArguments 60 = .ok (.iload_n 2, 1) := by decide +kernel
theorem dX3_readArguments_61 : decode cX3_readArguments 61 = .ok (.iload_n 1, 1) := by decide +kernel
theorem dX3_readArguments_62 : decode cX3_readArguments 62 = .ok (.if_icmp .ne 40, 3) := by decide +kernel
theorem dX3_readArguments_65 : decode cX3_readArguments 65 = .ok (.aload_n 0, 1) := by decide +kernel
theorem dX3_readArguments_66 : decode cX3_readArguments 66 = .ok (.getfield 28, 3) := by decide +kernel
theorem dX3_readArguments_69 : decode cX3_readArguments 69 = .ok (.getfield 85, 3) := by decide +kernel
theorem dX3_readArguments_72 : decode cX3_readArguments 72 = .ok (.ifCond .eq 30, 3) := by decide +kernel
theorem dX3_readArguments_75 : decode cX3_readArguments 75 = .ok (.aload_n 0, 1) := by decide +kernel
theorem dX3_readArguments_76 : decode cX3_readArguments 76 = .ok (.invokevirtual 79, 3) := by decide +kernel
theorem dX3_readArguments_79 : decode cX3_readArguments 79 = .ok (.ifCond .eq 23, 3) := by decide +kernel
theorem dX3_readArguments_82 : decode cX3_readArguments 82 = .ok (.aload_n 0, 1) := by decide +kernel
theorem dX3_readArguments_83 : decode cX3_readArguments 83 = .ok (.getfield 31, 3) := by decide +kernel
theorem dX3_readArguments_86 : decode cX3_readArguments 86 = .ok (.iload_n 2, 1) := by decide +kernel
theorem dX3_readArguments_87 : decode cX3_readArguments 87 = .ok (.bipush 10, 2) := by decide +kernel
theorem dX3_readArguments_89 : decode cX3_readArguments 89 = .ok (.aload_n 0, 1) := by decide +kernel
theorem dX3_readArguments_90 : decode cX3_readArguments 90 = .ok (.getfield 31, 3) := by decide +kernel
theorem dX3_readArguments_93 : decode cX3_readArguments 93 = .ok (.iload_n 2, 1) := by decide +kernel
theorem dX3_readArguments_94 : decode cX3_readArguments 94 = .ok (.iaload, 1) := by decide +kernel
theorem dX3_readArguments_95 : decode cX3_readArguments 95 = .ok (.imul, 1) := by decide +kernel
theorem dX3_readArguments_96 : decode cX3_readArguments 96 = .ok (.aload_n 0, 1) := by decide +kernel
theorem dX3_readArguments_97 : decode cX3_readArguments 97 = .ok (.invokevirtual 82, 3) := by decide +kernel
theorem dX3_readArguments_100 : decode cX3_readArguments 100 = .ok (.iadd, 1) := by decide +kernel
theorem dX3_readArguments_101 : decode cX3_readArguments 101 = .ok (.iastore, 1) := by decide +kernel
theorem dX3_readArguments_102 : decode cX3_readArguments 102 = .ok (.iinc 2 1, 3) := by decide +kernel
theorem dX3_readArguments_105 : decode cX3_readArguments 105 = .ok (.goto (-93), 3) := by decide +kernel
theorem dX3_readArguments_108 : decode cX3_readArguments 108 = .ok (.iconst 1, 1) := by decide +kernel
theorem dX3_readArguments_109 : decode cX3_readArguments 109 = .ok (.ireturn, 1) := by decide +kernel
theorem dX3_atDigit_0 : decode cX3_atDigit 0 = .ok (.aload_n 0, 1) := by decide +kernel
theorem dX3_atDigit_1 : decode cX3_atDigit 1 = .ok (.getfield 19, 3) := by decide +kernel
theorem dX3_atDigit_4 : decode cX3_atDigit 4 = .ok (.aload_n 0, 1) := by decide +kernel
theorem dX3_atDigit_5 : decode cX3_atDigit 5 = .ok (.getfield 15, 3) := by decide +kernel
theorem dX3_atDigit_8 : decode cX3_atDigit 8 = .ok (.if_icmp .ge 35, 3) := by decide +kernel
theorem dX3_atDigit_11 : decode cX3_atDigit 11 = .ok (.aload_n 0, 1) := by decide +kernel
theorem dX3_atDigit_12 : decode cX3_atDigit 12 = .ok (.getfield 9, 3) := by decide +kernel
theorem dX3_atDigit_15 : decode cX3_atDigit 15 = .ok (.aload_n 0, 1) := by decide +kernel
theorem dX3_atDigit_16 : decode cX3_atDigit 16 = .ok (.getfield 19, 3) := by decide +kernel
theorem dX3_atDigit_19 : decode cX3_atDigit 19 = .ok (.caload, 1) := by decide +kernel
theorem dX3_atDigit_20 : decode cX3_atDigit 20 = .ok (.bipush 48, 2) := by decide +kernel
theorem dX3_atDigit_22 : decode cX3_atDigit 22 = .ok (.if_icmp .lt 21, 3) := by decide +kernel
theorem dX3_atDigit_25 : decode cX3_atDigit 25 = .ok (.aload_n 0, 1) := by decide +kernel
theorem dX3_atDigit_26 : decode cX3_atDigit 26 = .ok (.getfield 9, 3) := by decide +kernel
theorem dX3_atDigit_29 : decode cX3_atDigit 29 = .ok (.aload_n 0, 1) := by decide +kernel
theorem dX3_atDigit_30 : decode cX3_atDigit 30 = .ok (.getfield 19, 3) := by decide +kernel
theorem dX3_atDigit_33 : decode cX3_atDigit 33 = .ok (.caload, 1) := by decide +kernel
theorem dX3_atDigit_34 : decode cX3_atDigit 34 = .ok (.bipush 57, 2) := by decide +kernel
theorem dX3_atDigit_36 : decode cX3_atDigit 36 = .ok (.if_icmp .gt 7, 3) := by decide +kernel
theorem dX3_atDigit_39 : decode cX3_atDigit 39 = .ok (.iconst 1, 1) := by decide +kernel
theorem dX3_atDigit_40 : decode cX3_atDigit 40 = .ok (.goto 4, 3) := by decide +kernel
theorem dX3_atDigit_43 : decode cX3_atDigit 43 = .ok (.iconst 0, 1) := by decide +kernel
theorem dX3_atDigit_44 : decode cX3_atDigit 44 = .ok (.ireturn, 1) := by decide +kernel
theorem dX3_readDigit_0 : decode cX3_readDigit 0 = .ok (.aload_n 0, 1) := by decide +kernel
theorem dX3_readDigit_1 : decode cX3_readDigit 1 = .ok (.getfield 9, 3) := by decide +kernel
theorem dX3_readDigit_4 : decode cX3_readDigit 4 = .ok (.aload_n 0, 1) := by decide +kernel
theorem dX3_readDigit_5 : decode cX3_readDigit 5 = .ok (.getfield 19, 3) := by decide +kernel
theorem dX3_readDigit_8 : decode cX3_readDigit 8 = .ok (.caload, 1) := by decide +kernel
theorem dX3_readDigit_9 : decode cX3_readDigit 9 = .ok (.bipush 48, 2) := by decide +kernel
theorem dX3_readDigit_11 : decode cX3_readDigit 11 = .ok (.isub, 1) := by decide +kernel
theorem dX3_readDigit_12 : decode cX3_readDigit 12 = .ok (.istore_n 1, 1) := by decide +kernel
theorem dX3_readDigit_13 : decode cX3_readDigit 13 = .ok (.aload_n 0, 1) := by decide +kernel
theorem dX3_readDigit_14 : decode cX3_readDigit 14 = .ok (.dup, 1) := by decide +kernel
theorem dX3_readDigit_15 : decode cX3_readDigit 15 = .ok (.getfield 19, 3) := by decide +kernel
theorem dX3_readDigit_18 : decode cX3_readDigit 18 = .ok (.iconst 1, 1) := by decide +kernel
theorem dX3_readDigit_19 : decode cX3_readDigit 19 = .ok (.iadd, 1) := by decide +kernel
theorem dX3_readDigit_20 : decode cX3_readDigit 20 = .ok (.putfield 19, 3) := by decide +kernel
theorem dX3_readDigit_23 : decode cX3_readDigit 23 = .ok (.iload_n 1, 1) := by decide +kernel
theorem dX3_readDigit_24 : decode cX3_readDigit 24 = .ok (.ireturn, 1) := by decide +kernel
theorem dX4_init_0 : decode cX4_init 0 = .ok (.aload_n 0, 1) := by decide +kernel
theorem dX4_init_1 : decode cX4_init 1 = .ok (.invokespecial 3, 3) := by decide +kernel
theorem dX4_init_4 : decode cX4_init 4 = .ok (.aload_n 0, 1) := by decide +kernel
theorem dX4_init_5 : decode cX4_init 5 = .ok (.bipush 36, 2) := by decide +kernel
theorem dX4_init_7 : decode cX4_init 7 = .ok (.newarray .int, 2) := by decide +kernel
theorem dX4_init_9 : decode cX4_init 9 = .ok (.putfield 9, 3) := by decide +kernel
theorem dX4_init_12 : decode cX4_init 12 = .ok (.aload_n 0, 1) := by decide +kernel
theorem dX4_init_13 : decode cX4_init 13 = .ok (.bipush 36, 2) := by decide +kernel
theorem dX4_init_15 : decode cX4_init 15 = .ok (.newarray .int, 2) := by decide +kernel
theorem dX4_init_17 : decode cX4_init 17 = .ok (.putfield 15, 3) := by decide +kernel
theorem dX4_init_20 : decode cX4_init 20 = .ok (.return_, 1) := by decide +kernel
theorem dX4_spreadAll_0 : decode cX4_spreadAll 0 = .ok (.aload_n 0, 1) := by decide +kernel
theorem dX4_spreadAll_1 : decode cX4_spreadAll 1 = .ok (.getfield 9, 3) := by decide +kernel
theorem dX4_spreadAll_4 : decode cX4_spreadAll 4 = .ok (.iconst 0, 1) := by decide +kernel
theorem dX4_spreadAll_5 : decode cX4_spreadAll 5 = .ok (.invokestatic 18, 3) := by decide +kernel
theorem dX4_spreadAll_8 : decode cX4_spreadAll 8 = .ok (.iconst 0, 1) := by decide +kernel
theorem dX4_spreadAll_9 : decode cX4_spreadAll 9 = .ok (.istore_n 2, 1) := by decide +kernel
theorem dX4_spreadAll_10 : decode cX4_spreadAll 10 = .ok (.iload_n 2, 1) := by decide +kernel
theorem dX4_spreadAll_11 : decode cX4_spreadAll 11 = .ok (.aload_n 1, 1) := by decide +kernel
theorem dX4_spreadAll_12 : decode cX4_spreadAll 12 = .ok (.getfield 24, 3) := by decide +kernel
theorem dX4_spreadAll_15 : decode cX4_spreadAll 15 = .ok (.if_icmp .ge 50, 3) := by decide +kernel
theorem dX4_spreadAll_18 : decode cX4_spreadAll 18 = .ok (.aload_n 1, 1) := by decide +kernel
theorem dX4_spreadAll_19 : decode cX4_spreadAll 19 = .ok (.getfield 30, 3) := by decide +kernel
theorem dX4_spreadAll_22 : decode cX4_spreadAll 22 = .ok (.iload_n 2, 1) := by decide +kernel
theorem dX4_spreadAll_23 : decode cX4_spreadAll 23 = .ok (.baload, 1) := by decide +kernel
theorem dX4_spreadAll_24 : decode cX4_spreadAll 24 = .ok (.ifCond .eq 35, 3) := by decide +kernel
theorem dX4_spreadAll_27 : decode cX4_spreadAll 27 = .ok (.aload_n 1, 1) := by decide +kernel
theorem dX4_spreadAll_28 : decode cX4_spreadAll 28 = .ok (.getfield 34, 3) := by decide +kernel
theorem dX4_spreadAll_31 : decode cX4_spreadAll 31 = .ok (.iload_n 2, 1) := by decide +kernel
theorem dX4_spreadAll_32 : decode cX4_spreadAll 32 = .ok (.iaload, 1) := by decide +kernel
theorem dX4_spreadAll_33 : decode cX4_spreadAll 33 = .ok (.bipush 6, 2) := by decide +kernel
theorem dX4_spreadAll_35 : decode cX4_spreadAll 35 = .ok (.imul, 1) := by decide +kernel
theorem dX4_spreadAll_36 : decode cX4_spreadAll 36 = .ok (.aload_n 1, 1) := by decide +kernel
theorem dX4_spreadAll_37 : decode cX4_spreadAll 37 = .ok (.getfield 37, 3) := by decide +kernel
theorem dX4_spreadAll_40 : decode cX4_spreadAll 40 = .ok (.iload_n 2, 1) := by decide +kernel
theorem dX4_spreadAll_41 : decode cX4_spreadAll 41 = .ok (.iaload, 1) := by decide +kernel
theorem dX4_spreadAll_42 : decode cX4_spreadAll 42 = .ok (.iadd, 1) := by decide +kernel
theorem dX4_spreadAll_43 : decode cX4_spreadAll 43 = .ok (.istore_n 3, 1) := by decide +kernel
theorem dX4_spreadAll_44 : decode cX4_spreadAll 44 = .ok (.aload_n 0, 1) := by decide +kernel
theorem dX4_spreadAll_45 : decode cX4_spreadAll 45 = .ok (.iload_n 3, 1) := by decide +kernel
theorem dX4_spreadAll_46 : decode cX4_spreadAll 46 = .ok (.aload_n 1, 1) := by decide +kernel
theorem dX4_spreadAll_47 : decode cX4_spreadAll 47 = .ok (.getfield 40, 3) := by decide +kernel
theorem dX4_spreadAll_50 : decode cX4_spreadAll 50 = .ok (.iload_n 2, 1) := by decide +kernel
theorem dX4_spreadAll_51 : decode cX4_spreadAll 51 = .ok (.iaload, 1) := by decide +kernel
theorem dX4_spreadAll_52 : decode cX4_spreadAll 52 = .ok (.invokevirtual 43, 3) := by decide +kernel
theorem dX4_spreadAll_55 : decode cX4_spreadAll 55 = .ok (.aload_n 0, 1) := by decide +kernel
theorem dX4_spreadAll_56 : decode cX4_spreadAll 56 = .ok (.invokevirtual 47, 3) := by decide +kernel
theorem dX4_spreadAll_59 : decode cX4_spreadAll 59 = .ok (.iinc 2 1, 3) := by decide +kernel
theorem dX4_spreadAll_62 : decode cX4_spreadAll 62 = .ok (.goto (-52), 3) := by decide +kernel
theorem dX4_spreadAll_65 : decode cX4_spreadAll 65 = .ok (.return_, 1) := by decide +kernel
theorem dX4_spreadFrom_0 : decode cX4_spreadFrom 0 = .ok (.aload_n 0, 1) := by decide +kernel
theorem dX4_spreadFrom_1 : decode cX4_spreadFrom 1 = .ok (.getfield 15, 3) := by decide +kernel
theorem dX4_spreadFrom_4 : decode cX4_spreadFrom 4 = .ok (.iconst 0, 1) := by decide +kernel
theorem dX4_spreadFrom_5 : decode cX4_spreadFrom 5 = .ok (.invokestatic 18, 3) := by decide +kernel
theorem dX4_spreadFrom_8 : decode cX4_spreadFrom 8 = .ok (.aload_n 0, 1) := by decide +kernel
theorem dX4_spreadFrom_9 : decode cX4_spreadFrom 9 = .ok (.getfield 15, 3) := by decide +kernel
theorem dX4_spreadFrom_12 : decode cX4_spreadFrom 12 = .ok (.iload_n 1, 1) := by decide +kernel
theorem dX4_spreadFrom_13 : decode cX4_spreadFrom 13 = .ok (.iload_n 2, 1) := by decide +kernel
theorem dX4_spreadFrom_14 : decode cX4_spreadFrom 14 = .ok (.iastore, 1) := by decide +kernel
theorem dX4_spreadFrom_15 : decode cX4_spreadFrom 15 = .ok (.iload_n 2, 1) := by decide +kernel
theorem dX4_spreadFrom_16 : decode cX4_spreadFrom 16 = .ok (.istore_n 3, 1) := by decide +kernel
theorem dX4_spreadFrom_17 : decode cX4_spreadFrom 17 = .ok (.iload_n 3, 1) := by decide +kernel
theorem dX4_spreadFrom_18 : decode cX4_spreadFrom 18 = .ok (.iconst 2, 1) := by decide +kernel
theorem dX4_spreadFrom_19 : decode cX4_spreadFrom 19 = .ok (.if_icmp .le 56, 3) := by decide +kernel
theorem dX4_spreadFrom_22 : decode cX4_spreadFrom 22 = .ok (.iconst 0, 1) := by decide +kernel
theorem dX4_spreadFrom_23 : decode cX4_spreadFrom 23 = .ok (.istore 4, 2) := by decide +kernel
theorem dX4_spreadFrom_25 : decode cX4_spreadFrom 25 = .ok (.iload 4, 2) := by decide +kernel
theorem dX4_spreadFrom_27 : decode cX4_spreadFrom 27 = .ok (.aload_n 0, 1) := by decide +kernel
theorem dX4_spreadFrom_28 : decode cX4_spreadFrom 28 = .ok (.getfield 15, 3) := by decide +kernel
theorem dX4_spreadFrom_31 : decode cX4_spreadFrom 31 = .ok (.arraylength, 1) := by decide +kernel
theorem dX4_spreadFrom_32 : decode cX4_spreadFrom 32 = .ok (.if_icmp .ge 37, 3) := by decide +kernel
theorem dX4_spreadFrom_35 : decode cX4_spreadFrom 35 = .ok (.aload_n 0, 1) := by decide +kernel
theorem dX4_spreadFrom_36 : decode cX4_spreadFrom 36 = .ok (.getfield 15, 3) := by decide +kernel
theorem dX4_spreadFrom_39 : decode cX4_spreadFrom 39 = .ok (.iload 4, 2) := by decide +kernel
theorem dX4_spreadFrom_41 : decode cX4_spreadFrom 41 = .ok (.iaload, 1) := by decide +kernel
theorem dX4_spreadFrom_42 : decode cX4_spreadFrom 42 = .ok (.iload_n 3, 1) := by decide +kernel
theorem dX4_spreadFrom_43 : decode cX4_spreadFrom 43 = .ok (.if_icmp .ne 20, 3) := by decide +kernel
theorem dX4_spreadFrom_46 : decode cX4_spreadFrom 46 = .ok (.aload_n 0, 1) := by decide +kernel
theorem dX4_spreadFrom_47 : decode cX4_spreadFrom 47 = .ok (.iload 4, 2) := by decide +kernel
theorem dX4_spreadFrom_49 : decode cX4_spreadFrom 49 = .ok (.bipush 6, 2) := by decide +kernel
theorem dX4_spreadFrom_51 : decode cX4_spreadFrom 51 = .ok (.idiv, 1) := by decide +kernel
theorem dX4_spreadFrom_52 : decode cX4_spreadFrom 52 = .ok (.iload 4, 2) := by decide +kernel
theorem dX4_spreadFrom_54 : decode cX4_spreadFrom 54 = .ok (.bipush 6, 2) := by decide +kernel
theorem dX4_spreadFrom_56 : decode cX4_spreadFrom 56 = .ok (.irem, 1) := by decide +kernel
theorem dX4_spreadFrom_57 : decode cX4_spreadFrom 57 = .ok (.iload_n 3, 1) := by decide +kernel
theorem dX4_spreadFrom_58 : decode cX4_spreadFrom 58 = .ok (.iconst 2, 1) := by decide +kernel
theorem dX4_spreadFrom_59 : decode cX4_spreadFrom 59 = .ok (.isub, 1) := by decide +kernel
theorem dX4_spreadFrom_60 : decode cX4_spreadFrom 60 = .ok (.invokevirtual 50, 3) := by decide +kernel
theorem dX4_spreadFrom_63 : decode cX4_spreadFrom 63 = .ok (.iinc 4 1, 3) := by decide +kernel
theorem dX4_spreadFrom_66 : decode cX4_spreadFrom 66 = .ok (.goto (-41), 3) := by decide +kernel
theorem dX4_spreadFrom_69 : decode cX4_spreadFrom 69 = .ok (.iinc 3 (-2), 3) := by decide +kernel
theorem dX4_spreadFrom_72 : decode cX4_spreadFrom 72 = .ok (.goto (-55), 3) := by decide +kernel
theorem dX4_spreadFrom_75 : decode cX4_spreadFrom 75 = .ok (.return_, 1) := by decide +kernel
theorem dX4_passOn_0 : decode cX4_passOn 0 = .ok (.aload_n 0, 1) := by decide +kernel
theorem dX4_passOn_1 : decode cX4_passOn 1 = .ok (.iload_n 1, 1) := by decide +kernel
theorem dX4_passOn_2 : decode cX4_passOn 2 = .ok (.iconst 1, 1) := by decide +kernel
theorem dX4_passOn_3 : decode cX4_passOn 3 = .ok (.isub, 1) := by decide +kernel
theorem dX4_passOn_4 : decode cX4_passOn 4 = .ok (.iload_n 2, 1) := by decide +kernel
theorem dX4_passOn_5 : decode cX4_passOn 5 = .ok (.iload_n 3, 1) := by decide +kernel
theorem dX4_passOn_6 : decode cX4_passOn 6 = .ok (.invokevirtual 54, 3) := by decide +kernel
theorem dX4_passOn_9 : decode cX4_passOn 9 = .ok (.aload_n 0, 1) := by decide +kernel
theorem dX4_passOn_10 : decode cX4_passOn 10 = .ok (.iload_n 1, 1) := by decide +kernel
theorem dX4_passOn_11 : decode cX4_passOn 11 = .ok (.iconst 1, 1) := by decide +kernel
theorem dX4_passOn_12 : decode cX4_passOn 12 = .ok (.iadd, 1) := by decide +kernel
theorem dX4_passOn_13 : decode cX4_passOn 13 = .ok (.iload_n 2, 1) := by decide +kernel
theorem dX4_passOn_14 : decode cX4_passOn 14 = .ok (.iload_n 3, 1) := by decide +kernel
theorem dX4_passOn_15 : decode cX4_passOn 15 = .ok (.invokevirtual 54, 3) := by decide +kernel
theorem dX4_passOn_18 : decode cX4_passOn 18 = .ok (.aload_n 0, 1) := by decide +kernel
theorem dX4_passOn_19 : decode cX4_passOn 19 = .ok (.iload_n 1, 1) := by decide +kernel
theorem dX4_passOn_20 : decode cX4_passOn 20 = .ok (.iload_n 2, 1) := by decide +kernel
theorem dX4_passOn_21 : decode cX4_passOn 21 = .ok (.iconst 1, 1) := by decide +kernel
theorem dX4_passOn_22 : decode cX4_passOn 22 = .ok (.isub, 1) := by decide +kernel
theorem dX4_passOn_23 : decode cX4_passOn 23 = .ok (.iload_n 3, 1) := by decide +kernel
theorem dX4_passOn_24 : decode cX4_passOn 24 = .ok (.invokevirtual 54, 3) := by decide +kernel
theorem dX4_passOn_27 : decode cX4_passOn 27 = .ok (.aload_n 0, 1) := by decide +kernel
theorem dX4_passOn_28 : decode cX4_passOn 28 = .ok (.iload_n 1, 1) := by decide +kernel
theorem dX4_passOn_29 : decode cX4_passOn 29 = .ok (.iload_n 2, 1) := by decide +kernel
theorem dX4_passOn_30 : decode cX4_passOn 30 = .ok (.iconst 1, 1) := by decide +kernel
theorem dX4_passOn_31 : decode cX4_passOn 31 = .ok (.iadd, 1) := by decide +kernel
theorem dX4_passOn_32 : decode cX4_passOn 32 = .ok (.iload_n 3, 1) := by decide +kernel
theorem dX4_passOn_33 : decode cX4_passOn 33 = .ok (.invokevirtual 54, 3) := by decide +kernel
theorem dX4_passOn_36 : decode cX4_passOn 36 = .ok (.return_, 1) := by decide +kernel
theorem dX4_hear_0 : decode cX4_hear 0 = .ok (.iload_n 1, 1) := by decide +kernel
theorem dX4_hear_1 : decode cX4_hear 1 = .ok (.iload_n 2, 1) := by decide +kernel
theorem dX4_hear_2 : decode cX4_hear 2 = .ok (.invokestatic 57, 3) := by decide +kernel
theorem dX4_hear_5 : decode cX4_hear 5 = .ok (.ifCond .eq 29, 3) := by decide +kernel
theorem dX4_hear_8 : decode cX4_hear 8 = .ok (.aload_n 0, 1) := by decide +kernel
theorem dX4_hear_9 : decode cX4_hear 9 = .ok (.getfield 15, 3) := by decide +kernel
theorem dX4_hear_12 : decode cX4_hear 12 = .ok (.iload_n 1, 1) := by decide +kernel
theorem dX4_hear_13 : decode cX4_hear 13 = .ok (.bipush 6, 2) := by decide +kernel
theorem dX4_hear_15 : decode cX4_hear 15 = .ok (.imul, 1) := by decide +kernel
theorem dX4_hear_16 : decode cX4_hear 16 = .ok (.iload_n 2, 1) := by decide +kernel
theorem dX4_hear_17 : decode cX4_hear 17 = .ok (.iadd, 1) := by decide +kernel
theorem dX4_hear_18 : decode cX4_hear 18 = .ok (.iaload, 1) := by decide +kernel
theorem dX4_hear_19 : decode cX4_hear 19 = .ok (.ifCond .ne 15, 3) := by decide +kernel
theorem dX4_hear_22 : decode cX4_hear 22 = .ok (.aload_n 0, 1) := by decide +kernel
theorem dX4_hear_23 : decode cX4_hear 23 = .ok (.getfield 15, 3) := by decide +kernel
theorem dX4_hear_26 : decode cX4_hear 26 = .ok (.iload_n 1, 1) := by decide +kernel
theorem dX4_hear_27 : decode cX4_hear 27 = .ok (.bipush 6, 2) := by decide +kernel
theorem dX4_hear_29 : decode cX4_hear 29 = .ok (.imul, 1) := by decide +kernel
theorem dX4_hear_30 : decode cX4_hear 30 = .ok (.iload_n 2, 1) := by decide +kernel
theorem dX4_hear_31 : decode cX4_hear 31 = .ok (.iadd, 1) := by decide +kernel
theorem dX4_hear_32 : decode cX4_hear 32 = .ok (.iload_n 3, 1) := by decide +kernel
theorem dX4_hear_33 : decode cX4_hear 33 = .ok (.iastore, 1) := by decide +kernel
theorem dX4_hear_34 : decode cX4_hear 34 = .ok (.return_, 1) := by decide +kernel
theorem dX4_addSound_0 : decode cX4_addSound 0 = .ok (.iconst 0, 1) := by decide +kernel
theorem dX4_addSound_1 : decode cX4_addSound 1 = .ok (.istore_n 1, 1) := by decide +kernel
theorem dX4_addSound_2 : decode cX4_addSound 2 = .ok (.iload_n 1, 1) := by decide +kernel
theorem dX4_addSound_3 : decode cX4_addSound 3 = .ok (.aload_n 0, 1) := by decide +kernel
theorem dX4_addSound_4 : decode cX4_addSound 4 = .ok (.getfield 9, 3) := by decide +kernel
theorem dX4_addSound_7 : decode cX4_addSound 7 = .ok (.arraylength, 1) := by decide +kernel
theorem dX4_addSound_8 : decode cX4_addSound 8 = .ok (.if_icmp .ge 24, 3) := by decide +kernel
theorem dX4_addSound_11 : decode cX4_addSound 11 = .ok (.aload_n 0, 1) := by decide +kernel
theorem dX4_addSound_12 : decode cX4_addSound 12 = .ok (.getfield 9, 3) := by decide +kernel
theorem dX4_addSound_15 : decode cX4_addSound 15 = .ok (.iload_n 1, 1) := by decide +kernel
theorem dX4_addSound_16 : decode cX4_addSound 16 = .ok (.dup2, 1) := by decide +kernel
theorem dX4_addSound_17 : decode cX4_addSound 17 = .ok (.iaload, 1) := by decide +kernel
theorem dX4_addSound_18 : decode cX4_addSound 18 = .ok (.aload_n 0, 1) := by decide +kernel
theorem dX4_addSound_19 : decode cX4_addSound 19 = .ok (.getfield 15, 3) := by decide +kernel
theorem dX4_addSound_22 : decode cX4_addSound 22 = .ok (.iload_n 1, 1) := by decide +kernel
theorem dX4_addSound_23 : decode cX4_addSound 23 = .ok (.iaload, 1) := by decide +kernel
theorem dX4_addSound_24 : decode cX4_addSound 24 = .ok (.iadd, 1) := by decide +kernel
theorem dX4_addSound_25 : decode cX4_addSound 25 = .ok (.iastore, 1) := by decide +kernel
theorem dX4_addSound_26 : decode cX4_addSound 26 = .ok (.iinc 1 1, 3) := by decide +kernel
theorem dX4_addSound_29 : decode cX4_addSound 29 = .ok (.goto (-27), 3) := by decide +kernel
theorem dX4_addSound_32 : decode cX4_addSound 32 = .ok (.return_, 1) := by decide +kernel
theorem dX5_init_0 : decode cX5_init 0 = .ok (.aload_n 0, 1) := by decide +kernel
theorem dX5_init_1 : decode cX5_init 1 = .ok (.invokespecial 3, 3) := by decide +kernel
theorem dX5_init_4 : decode cX5_init 4 = .ok (.aload_n 0, 1) := by decide +kernel
theorem dX5_init_5 : decode cX5_init 5 = .ok (.iconst 0, 1) := by decide +kernel
theorem dX5_init_6 : decode cX5_init 6 = .ok (.putfield 11, 3) := by decide +kernel
theorem dX5_init_9 : decode cX5_init 9 = .ok (.aload_n 0, 1) := by decide +kernel
theorem dX5_init_10 : decode cX5_init 10 = .ok (.iconst 0, 1) := by decide +kernel
theorem dX5_init_11 : decode cX5_init 11 = .ok (.putfield 15, 3) := by decide +kernel
theorem dX5_init_14 : decode cX5_init 14 = .ok (.aload_n 0, 1) := by decide +kernel
theorem dX5_init_15 : decode cX5_init 15 = .ok (.iconst 0, 1) := by decide +kernel
theorem dX5_init_16 : decode cX5_init 16 = .ok (.putfield 18, 3) := by decide +kernel
theorem dX5_init_19 : decode cX5_init 19 = .ok (.aload_n 0, 1) := by decide +kernel
theorem dX5_init_20 : decode cX5_init 20 = .ok (.iconst 0, 1) := by decide +kernel
theorem dX5_init_21 : decode cX5_init 21 = .ok (.putfield 21, 3) := by decide +kernel
theorem dX5_init_24 : decode cX5_init 24 = .ok (.return_, 1) := by decide +kernel
theorem dX5_succeed_0 : decode cX5_succeed 0 = .ok (.aload_n 0, 1) := by decide +kernel
theorem dX5_succeed_1 : decode cX5_succeed 1 = .ok (.iconst 0, 1) := by decide +kernel
theorem dX5_succeed_2 : decode cX5_succeed 2 = .ok (.putfield 11, 3) := by decide +kernel
theorem dX5_succeed_5 : decode cX5_succeed 5 = .ok (.aload_n 0, 1) := by decide +kernel
theorem dX5_succeed_6 : decode cX5_succeed 6 = .ok (.iload_n 1, 1) := by decide +kernel
theorem dX5_succeed_7 : decode cX5_succeed 7 = .ok (.putfield 15, 3) := by decide +kernel
theorem dX5_succeed_10 : decode cX5_succeed 10 = .ok (.return_, 1) := by decide +kernel
theorem dX5_missIndex_0 : decode cX5_missIndex 0 = .ok (.aload_n 0, 1) := by decide +kernel
theorem dX5_missIndex_1 : decode cX5_missIndex 1 = .ok (.iconst 1, 1) := by decide +kernel
theorem dX5_missIndex_2 : decode cX5_missIndex 2 = .ok (.putfield 11, 3) := by decide +kernel
theorem dX5_missIndex_5 : decode cX5_missIndex 5 = .ok (.return_, 1) := by decide +kernel
theorem dX5_missNumber_0 : decode cX5_missNumber 0 = .ok (.aload_n 0, 1) := by decide +kernel
theorem dX5_missNumber_1 : decode cX5_missNumber 1 = .ok (.iconst 2, 1) := by decide +kernel
theorem dX5_missNumber_2 : decode cX5_missNumber 2 = .ok (.putfield 11, 3) := by decide +kernel
theorem dX5_missNumber_5 : decode cX5_missNumber 5 = .ok (.return_, 1) := by decide +kernel
theorem dX5_reject_0 : decode cX5_reject 0 = .ok (.aload_n 0, 1) := by decide +kernel
theorem dX5_reject_1 : decode cX5_reject 1 = .ok (.iconst 3, 1) := by decide +kernel
theorem dX5_reject_2 : decode cX5_reject 2 = .ok (.putfield 11, 3) := by decide +kernel
theorem dX5_reject_5 : decode cX5_reject 5 = .ok (.aload_n 0, 1) := by decide +kernel
theorem dX5_reject_6 : decode cX5_reject 6 = .ok (.iload_n 1, 1) := by decide +kernel
theorem dX5_reject_7 : decode cX5_reject 7 = .ok (.putfield 18, 3) := by decide +kernel
theorem dX5_reject_10 : decode cX5_reject 10 = .ok (.aload_n 0, 1) := by decide +kernel
theorem dX5_reject_11 : decode cX5_reject 11 = .ok (.iload_n 2, 1) := by decide +kernel
theorem dX5_reject_12 : decode cX5_reject 12 = .ok (.putfield 21, 3) := by decide +kernel
theorem dX5_reject_15 : decode cX5_reject 15 = .ok (.return_, 1) := by decide +kernel
theorem dX6_init_0 : decode cX6_init 0 = .ok (.aload_n 0, 1) := by decide +kernel
theorem dX6_init_1 : decode cX6_init 1 = .ok (.invokespecial 3, 3) := by decide +kernel
theorem dX6_init_4 : decode cX6_init 4 = .ok (.aload_n 0, 1) := by decide +kernel
theorem dX6_init_5 : decode cX6_init 5 = .ok (.iconst 0, 1) := by decide +kernel
theorem dX6_init_6 : decode cX6_init 6 = .ok (.putfield 9, 3) := by decide +kernel
theorem dX6_init_9 : decode cX6_init 9 = .ok (.aload_n 0, 1) := by decide +kernel
theorem dX6_init_10 : decode cX6_init 10 = .ok (.bipush 10, 2) := by decide +kernel
theorem dX6_init_12 : decode cX6_init 12 = .ok (.newarray .int, 2) := by decide +kernel
theorem dX6_init_14 : decode cX6_init 14 = .ok (.putfield 15, 3) := by decide +kernel
theorem dX6_init_17 : decode cX6_init 17 = .ok (.aload_n 0, 1) := by decide +kernel
theorem dX6_init_18 : decode cX6_init 18 = .ok (.bipush 10, 2) := by decide +kernel
theorem dX6_init_20 : decode cX6_init 20 = .ok (.newarray .int, 2) := by decide +kernel
theorem dX6_init_22 : decode cX6_init 22 = .ok (.putfield 19, 3) := by decide +kernel
theorem dX6_init_25 : decode cX6_init 25 = .ok (.aload_n 0, 1) := by decide +kernel
theorem dX6_init_26 : decode cX6_init 26 = .ok (.bipush 10, 2) := by decide +kernel
theorem dX6_init_28 : decode cX6_init 28 = .ok (.newarray .int, 2) := by decide +kernel
theorem dX6_init_30 : decode cX6_init 30 = .ok (.putfield 22, 3) := by decide +kernel
theorem dX6_init_33 : decode cX6_init 33 = .ok (.aload_n 0, 1) := by decide +kernel
theorem dX6_init_34 : decode cX6_init 34 = .ok (.iconst 0, 1) := by decide +kernel
theorem dX6_init_35 : decode cX6_init 35 = .ok (.putfield 25, 3) := by decide +kernel
theorem dX6_init_38 : decode cX6_init 38 = .ok (.aload_n 0, 1) := by decide +kernel
theorem dX6_init_39 : decode cX6_init 39 = .ok (.iconst 4, 1) := by decide +kernel
theorem dX6_init_40 : decode cX6_init 40 = .ok (.newarray .int, 2) := by decide +kernel
theorem dX6_init_42 : decode cX6_init 42 = .ok (.putfield 28, 3) := by decide +kernel
theorem dX6_init_45 : decode cX6_init 45 = .ok (.aload_n 0, 1) := by decide +kernel
theorem dX6_init_46 : decode cX6_init 46 = .ok (.iconst 4, 1) := by decide +kernel
theorem dX6_init_47 : decode cX6_init 47 = .ok (.newarray .int, 2) := by decide +kernel
theorem dX6_init_49 : decode cX6_init 49 = .ok (.putfield 31, 3) := by decide +kernel
theorem dX6_init_52 : decode cX6_init 52 = .ok (.aload_n 0, 1) := by decide +kernel
theorem dX6_init_53 : decode cX6_init 53 = .ok (.iconst 4, 1) := by decide +kernel
theorem dX6_init_54 : decode cX6_init 54 = .ok (.newarray .int, 2) := by decide +kernel
theorem dX6_init_56 : decode cX6_init 56 = .ok (.putfield 34, 3) := by decide +kernel
theorem dX6_init_59 : decode cX6_init 59 = .ok (.aload_n 0, 1) := by decide +kernel
theorem dX6_init_60 : decode cX6_init 60 = .ok (.iconst 4, 1) := by decide +kernel
theorem dX6_init_61 : decode cX6_init 61 = .ok (.newarray .boolean, 2) := by decide +kernel
theorem dX6_init_63 : decode cX6_init 63 = .ok (.putfield 37, 3) := by decide +kernel
theorem dX6_init_66 : decode cX6_init 66 = .ok (.aload_n 0, 1) := by decide +kernel
theorem dX6_init_67 : decode cX6_init 67 = .ok (.iconst 3, 1) := by decide +kernel
theorem dX6_init_68 : decode cX6_init 68 = .ok (.putfield 41, 3) := by decide +kernel
theorem dX6_init_71 : decode cX6_init 71 = .ok (.return_, 1) := by decide +kernel
theorem dX6_hasCell_0 : decode cX6_hasCell 0 = .ok (.iload_n 0, 1) := by decide +kernel
theorem dX6_hasCell_1 : decode cX6_hasCell 1 = .ok (.ifCond .lt 23, 3) := by decide +kernel
theorem dX6_hasCell_4 : decode cX6_hasCell 4 = .ok (.iload_n 0, 1) := by decide +kernel
theorem dX6_hasCell_5 : decode cX6_hasCell 5 = .ok (.bipush 6, 2) := by decide +kernel
theorem dX6_hasCell_7 : decode cX6_hasCell 7 = .ok (.if_icmp .ge 17, 3) := by decide +kernel
theorem dX6_hasCell_10 : decode cX6_hasCell 10 = .ok (.iload_n 1, 1) := by decide +kernel
theorem dX6_hasCell_11 : decode cX6_hasCell 11 = .ok (.ifCond .lt 13, 3) := by decide +kernel
theorem dX6_hasCell_14 : decode cX6_hasCell 14 = .ok (.iload_n 1, 1) := by decide +kernel
theorem dX6_hasCell_15 : decode cX6_hasCell 15 = .ok (.bipush 6, 2) := by decide +kernel
theorem dX6_hasCell_17 : decode cX6_hasCell 17 = .ok (.if_icmp .ge 7, 3) := by decide +kernel
theorem dX6_hasCell_20 : decode cX6_hasCell 20 = .ok (.iconst 1, 1) := by decide +kernel
theorem dX6_hasCell_21 : decode cX6_hasCell 21 = .ok (.goto 4, 3) := by decide +kernel
theorem dX6_hasCell_24 : decode cX6_hasCell 24 = .ok (.iconst 0, 1) := by decide +kernel
theorem dX6_hasCell_25 : decode cX6_hasCell 25 = .ok (.ireturn, 1) := by decide +kernel
theorem dX6_hasBench_0 : decode cX6_hasBench 0 = .ok (.iload_n 1, 1) := by decide +kernel
theorem dX6_hasBench_1 : decode cX6_hasBench 1 = .ok (.ifCond .lt 15, 3) := by decide +kernel
theorem dX6_hasBench_4 : decode cX6_hasBench 4 = .ok (.iload_n 1, 1) := by decide +kernel
theorem dX6_hasBench_5 : decode cX6_hasBench 5 = .ok (.aload_n 0, 1) := by decide +kernel
theorem dX6_hasBench_6 : decode cX6_hasBench 6 = .ok (.getfield 9, 3) := by decide +kernel
theorem dX6_hasBench_9 : decode cX6_hasBench 9 = .ok (.if_icmp .ge 7, 3) := by decide +kernel
theorem dX6_hasBench_12 : decode cX6_hasBench 12 = .ok (.iconst 1, 1) := by decide +kernel
theorem dX6_hasBench_13 : decode cX6_hasBench 13 = .ok (.goto 4, 3) := by decide +kernel
theorem dX6_hasBench_16 : decode cX6_hasBench 16 = .ok (.iconst 0, 1) := by decide +kernel
theorem dX6_hasBench_17 : decode cX6_hasBench 17 = .ok (.ireturn, 1) := by decide +kernel
theorem dX6_hasFountain_0 : decode cX6_hasFountain 0 = .ok (.iload_n 1, 1) := by decide +kernel
theorem dX6_hasFountain_1 : decode cX6_hasFountain 1 = .ok (.ifCond .lt 15, 3) := by decide +kernel
theorem dX6_hasFountain_4 : decode cX6_hasFountain 4 = .ok (.iload_n 1, 1) := by decide +kernel
theorem dX6_hasFountain_5 : decode cX6_hasFountain 5 = .ok (.aload_n 0, 1) := by decide +kernel
theorem dX6_hasFountain_6 : decode cX6_hasFountain 6 = .ok (.getfield 25, 3) := by decide +kernel
theorem dX6_hasFountain_9 : decode cX6_hasFountain 9 = .ok (.if_icmp .ge 7, 3) := by decide +kernel
theorem dX6_hasFountain_12 : decode cX6_hasFountain 12 = .ok (.iconst 1, 1) := by decide +kernel
theorem dX6_hasFountain_13 : decode cX6_hasFountain 13 = .ok (.goto 4, 3) := by decide +kernel
theorem dX6_hasFountain_16 : decode cX6_hasFountain 16 = .ok (.iconst 0, 1) := by decide +kernel
theorem dX6_hasFountain_17 : decode cX6_hasFountain 17 = .ok (.ireturn, 1) := by decide +kernel
theorem dX6_placeBench_0 : decode cX6_placeBench 0 = .ok (.iload_n 1, 1) := by decide +kernel
theorem dX6_placeBench_1 : decode cX6_placeBench 1 = .ok (.iload_n 2, 1) := by decide +kernel
theorem dX6_placeBench_2 : decode cX6_placeBench 2 = .ok (.invokestatic 44, 3) := by decide +kernel
theorem dX6_placeBench_5 : decode cX6_placeBench 5 = .ok (.ifCond .ne 11, 3) := by decide +kernel
theorem dX6_placeBench_8 : decode cX6_placeBench 8 = .ok (.aload 4, 2) := by decide +kernel
theorem dX6_placeBench_10 : decode cX6_placeBench 10 = .ok (.invokevirtual 48, 3) := by decide +kernel
theorem dX6_placeBench_13 : decode cX6_placeBench 13 = .ok (.goto 118, 3) := by decide +kernel
theorem dX6_placeBench_16 : decode cX6_placeBench 16 = .ok (.iload_n 3, 1) := by decide +kernel
theorem dX6_placeBench_17 : decode cX6_placeBench 17 = .ok (.iconst 1, 1) := by decide +kernel
theorem dX6_placeBench_18 : decode cX6_placeBench 18 = .ok (.if_icmp .lt 9, 3) := by decide +kernel
theorem dX6_placeBench_21 : decode cX6_placeBench 21 = .ok (.iload_n 3, 1) := by decide +kernel
theorem dX6_placeBench_22 : decode cX6_placeBench 22 = .ok (.bipush 20, 2) := by decide +kernel
theorem dX6_placeBench_24 : decode cX6_placeBench 24 = .ok (.if_icmp .le 11, 3) := by decide +kernel
theorem dX6_placeBench_27 : decode cX6_placeBench 27 = .ok (.aload 4, 2) := by decide +kernel
theorem dX6_placeBench_29 : decode cX6_placeBench 29 = .ok (.invokevirtual 53, 3) := by decide +kernel
theorem dX6_placeBench_32 : decode cX6_placeBench 32 = .ok (.goto 99, 3) := by decide +kernel
theorem dX6_placeBench_35 : decode cX6_placeBench 35 = .ok (.aload_n 0, 1) := by decide +kernel
theorem dX6_placeBench_36 : decode cX6_placeBench 36 = .ok (.getfield 9, 3) := by decide +kernel
theorem dX6_placeBench_39 : decode cX6_placeBench 39 = .ok (.bipush 10, 2) := by decide +kernel
theorem dX6_placeBench_41 : decode cX6_placeBench 41 = .ok (.if_icmp .lt 14, 3) := by decide +kernel
theorem dX6_placeBench_44 : decode cX6_placeBench 44 = .ok (.aload 4, 2) := by decide +kernel
theorem dX6_placeBench_46 : decode cX6_placeBench 46 = .ok (.iconst 1, 1) := by decide +kernel
theorem dX6_placeBench_47 : decode cX6_placeBench 47 = .ok (.bipush 10, 2) := by decide +kernel
theorem dX6_placeBench_49 : decode cX6_placeBench 49 = .ok (.invokevirtual 56, 3) := by decide +kernel
theorem dX6_placeBench_52 : decode cX6_placeBench 52 = .ok (.goto 79, 3) := by decide +kernel
theorem dX6_placeBench_55 : decode cX6_placeBench 55 = .ok (.aload_n 0, 1) := by decide +kernel
theorem dX6_placeBench_56 : decode cX6_placeBench 56 = .ok (.iload_n 1, 1) := by decide +kernel
theorem dX6_placeBench_57 : decode cX6_placeBench 57 = .ok (.iload_n 2, 1) := by decide +kernel
theorem dX6_placeBench_58 : decode cX6_placeBench 58 = .ok (.invokevirtual 60, 3) := by decide +kernel
theorem dX6_placeBench_61 : decode cX6_placeBench 61 = .ok (.iconst (-1), 1) := by decide +kernel
theorem dX6_placeBench_62 : decode cX6_placeBench 62 = .ok (.if_icmp .eq 18, 3) := by decide +kernel
theorem dX6_placeBench_65 : decode cX6_placeBench 65 = .ok (.aload 4, 2) := by decide +kernel
theorem dX6_placeBench_67 : decode cX6_placeBench 67 = .ok (.iconst 4, 1) := by decide +kernel
theorem dX6_placeBench_68 : decode cX6_placeBench 68 = .ok (.aload_n 0, 1) := by decide +kernel
theorem dX6_placeBench_69 : decode cX6_placeBench 69 = .ok (.iload_n 1, 1) := by decide +kernel
theorem dX6_placeBench_70 : decode cX6_placeBench 70 = .ok (.iload_n 2, 1) := by decide +kernel
theorem dX6_placeBench_71 : decode cX6_placeBench 71 = .ok (.invokevirtual 60, 3) := by decide +kernel
theorem dX6_placeBench_74 : decode cX6_placeBench 74 = .ok (.invokevirtual 56, 3) := by decide +kernel
theorem dX6_placeBench_77 : decode cX6_placeBench 77 = .ok (.goto 54, 3) := by decide +kernel
theorem dX6_placeBench_80 : decode cX6_placeBench 80 = .ok (.aload_n 0, 1) := by decide +kernel
theorem dX6_placeBench_81 : decode cX6_placeBench 81 = .ok (.getfield 15, 3) := by decide +kernel
theorem dX6_placeBench_84 : decode cX6_placeBench 84 = .ok (.aload_n 0, 1) := by decide +kernel
theorem dX6_placeBench_85 : decode cX6_placeBench 85 = .ok (.getfield 9, 3) := by decide +kernel
theorem dX6_placeBench_88 : decode cX6_placeBench 88 = .ok (.iload_n 1, 1) := by decide +kernel
theorem dX6_placeBench_89 : decode cX6_placeBench 89 = .ok (.iastore, 1) := by decide +kernel
theorem dX6_placeBench_90 : decode cX6_placeBench 90 = .ok (.aload_n 0, 1) := by decide +kernel
theorem dX6_placeBench_91 : decode cX6_placeBench 91 = .ok (.getfield 19, 3) := by decide +kernel
theorem dX6_placeBench_94 : decode cX6_placeBench 94 = .ok (.aload_n 0, 1) := by decide +kernel
theorem dX6_placeBench_95 : decode cX6_placeBench 95 = .ok (.getfield 9, 3) := by decide +kernel
theorem dX6_placeBench_98 : decode cX6_placeBench 98 = .ok (.iload_n 2, 1) := by decide +kernel
theorem dX6_placeBench_99 : decode cX6_placeBench 99 = .ok (.iastore, 1) := by decide +kernel
theorem dX6_placeBench_100 : decode cX6_placeBench 100 = .ok (.aload_n 0, 1) := by decide +kernel
theorem dX6_placeBench_101 : decode cX6_placeBench 101 = .ok (.getfield 22, 3) := by decide +kernel
theorem dX6_placeBench_104 : decode cX6_placeBench 104 = .ok (.aload_n 0, 1) := by decide +kernel
theorem dX6_placeBench_105 : decode cX6_placeBench 105 = .ok (.getfield 9, 3) := by decide +kernel
theorem dX6_placeBench_108 : decode cX6_placeBench 108 = .ok (.iload_n 3, 1) := by decide +kernel
theorem dX6_placeBench_109 : decode cX6_placeBench 109 = .ok (.iastore, 1) := by decide +kernel
theorem dX6_placeBench_110 : decode cX6_placeBench 110 = .ok (.aload_n 0, 1) := by decide +kernel
theorem dX6_placeBench_111 : decode cX6_placeBench 111 = .ok (.dup, 1) := by decide +kernel
theorem dX6_placeBench_112 : decode cX6_placeBench 112 = .ok (.getfield 9, 3) := by decide +kernel
theorem dX6_placeBench_115 : decode cX6_placeBench 115 = .ok (.iconst 1, 1) := by decide +kernel
theorem dX6_placeBench_116 : decode cX6_placeBench 116 = .ok (.iadd, 1) := by decide +kernel
theorem dX6_placeBench_117 : decode cX6_placeBench 117 = .ok (.putfield 9, 3) := by decide +kernel
theorem dX6_placeBench_120 : decode cX6_placeBench 120 = .ok (.aload 4, 2) := by decide +kernel
theorem dX6_placeBench_122 : decode cX6_placeBench 122 = .ok (.aload_n 0, 1) := by decide +kernel
theorem dX6_placeBench_123 : decode cX6_placeBench 123 = .ok (.getfield 9, 3) := by decide +kernel
theorem dX6_placeBench_126 : decode cX6_placeBench 126 = .ok (.iconst 1, 1) := by decide +kernel
theorem dX6_placeBench_127 : decode cX6_placeBench 127 = .ok (.isub, 1) := by decide +kernel
theorem dX6_placeBench_128 : decode cX6_placeBench 128 = .ok (.invokevirtual 64, 3) := by decide +kernel
theorem dX6_placeBench_131 : decode cX6_placeBench 131 = .ok (.return_, 1) := by decide +kernel
theorem dX6_changeRent_0 : decode cX6_changeRent 0 = .ok (.aload_n 0, 1) := by decide +kernel
theorem dX6_changeRent_1 : decode cX6_changeRent 1 = .ok (.iload_n 1, 1) := by decide +kernel
theorem dX6_changeRent_2 : decode cX6_changeRent 2 = .ok (.invokevirtual 68, 3) := by decide +kernel
theorem dX6_changeRent_5 : decode cX6_changeRent 5 = .ok (.ifCond .ne 10, 3) := by decide +kernel
theorem dX6_changeRent_8 : decode cX6_changeRent 8 = .ok (.aload_n 3, 1) := by decide +kernel
theorem dX6_changeRent_9 : decode cX6_changeRent 9 = .ok (.invokevirtual 48, 3) := by decide +kernel
theorem dX6_changeRent_12 : decode cX6_changeRent 12 = .ok (.goto 38, 3) := by decide +kernel
theorem dX6_changeRent_15 : decode cX6_changeRent 15 = .ok (.iload_n 2, 1) := by decide +kernel
theorem dX6_changeRent_16 : decode cX6_changeRent 16 = .ok (.iconst 1, 1) := by decide +kernel
theorem dX6_changeRent_17 : decode cX6_changeRent 17 = .ok (.if_icmp .lt 9, 3) := by decide +kernel
theorem dX6_changeRent_20 : decode cX6_changeRent 20 = .ok (.iload_n 2, 1) := by decide +kernel
theorem dX6_changeRent_21 : decode cX6_changeRent 21 = .ok (.bipush 20, 2) := by decide +kernel
theorem dX6_changeRent_23 : decode cX6_changeRent 23 = .ok (.if_icmp .le 10, 3) := by decide +kernel
theorem dX6_changeRent_26 : decode cX6_changeRent 26 = .ok (.aload_n 3, 1) := by decide +kernel
theorem dX6_changeRent_27 : decode cX6_changeRent 27 = .ok (.invokevirtual 53, 3) := by decide +kernel
theorem dX6_changeRent_30 : decode cX6_changeRent 30 = .ok (.goto 20, 3) := by decide +kernel
theorem dX6_changeRent_33 : decode cX6_changeRent 33 = .ok (.aload_n 3, 1) := by decide +kernel
theorem dX6_changeRent_34 : decode cX6_changeRent 34 = .ok (.aload_n 0, 1) := by decide +kernel
theorem dX6_changeRent_35 : decode cX6_changeRent 35 = .ok (.getfield 22, 3) := by decide +kernel
theorem dX6_changeRent_38 : decode cX6_changeRent 38 = .ok (.iload_n 1, 1) := by decide +kernel
theorem dX6_changeRent_39 : decode cX6_changeRent 39 = .ok (.iaload, 1) := by decide +kernel
theorem dX6_changeRent_40 : decode cX6_changeRent 40 = .ok (.invokevirtual 64, 3) := by decide +kernel
theorem dX6_changeRent_43 : decode cX6_changeRent 43 = .ok (.aload_n 0, 1) := by decide +kernel
theorem dX6_changeRent_44 : decode cX6_changeRent 44 = .ok (.getfield 22, 3) := by decide +kernel
theorem dX6_changeRent_47 : decode cX6_changeRent 47 = .ok (.iload_n 1, 1) := by decide +kernel
theorem dX6_changeRent_48 : decode cX6_changeRent 48 = .ok (.iload_n 2, 1) := by decide +kernel
theorem dX6_changeRent_49 : decode cX6_changeRent 49 = .ok (.iastore, 1) := by decide +kernel
theorem dX6_changeRent_50 : decode cX6_changeRent 50 = .ok (.return_, 1) := by decide +kernel
theorem dX6_placeFountain_0 : decode cX6_placeFountain 0 = .ok (.iload_n 1, 1) := by decide +kernel
theorem dX6_placeFountain_1 : decode cX6_placeFountain 1 = .ok (.iload_n 2, 1) := by decide +kernel
theorem dX6_placeFountain_2 : decode cX6_placeFountain 2 = .ok (.invokestatic 44, 3) := by decide +kernel
theorem dX6_placeFountain_5 : decode cX6_placeFountain 5 = .ok (.ifCond .ne 11, 3) := by decide +kernel
theorem dX6_placeFountain_8 : decode cX6_placeFountain 8 = .ok (.aload 4, 2) := by decide +kernel
theorem dX6_placeFountain_10 : decode cX6_placeFountain 10 = .ok (.invokevirtual 48, 3) := by decide +kernel
theorem dX6_placeFountain_13 : decode cX6_placeFountain 13 = .ok (.goto 126, 3) := by decide +kernel
theorem dX6_placeFountain_16 : decode cX6_placeFountain 16 = .ok (.iload_n 3, 1) := by decide +kernel
theorem dX6_placeFountain_17 : decode cX6_placeFountain 17 = .ok (.iconst 1, 1) := by decide +kernel
theorem dX6_placeFountain_18 : decode cX6_placeFountain 18 = .ok (.if_icmp .lt 9, 3) := by decide +kernel
theorem dX6_placeFountain_21 : decode cX6_placeFountain 21 = .ok (.iload_n 3, 1) := by decide +kernel
theorem dX6_placeFountain_22 : decode cX6_placeFountain 22 = .ok (.bipush 9, 2) := by decide +kernel
theorem dX6_placeFountain_24 : decode cX6_placeFountain 24 = .ok (.if_icmp .le 11, 3) := by decide +kernel
theorem dX6_placeFountain_27 : decode cX6_placeFountain 27 = .ok (.aload 4, 2) := by decide +kernel
theorem dX6_placeFountain_29 : decode cX6_placeFountain 29 = .ok (.invokevirtual 53, 3) := by decide +kernel
theorem dX6_placeFountain_32 : decode cX6_placeFountain 32 = .ok (.goto 107, 3) := by decide +kernel
theorem dX6_placeFountain_35 : decode cX6_placeFountain 35 = .ok (.aload_n 0, 1) := by decide +kernel
theorem dX6_placeFountain_36 : decode cX6_placeFountain 36 = .ok (.getfield 25, 3) := by decide +kernel
theorem dX6_placeFountain_39 : decode cX6_placeFountain 39 = .ok (.iconst 4, 1) := by decide +kernel
theorem dX6_placeFountain_40 : decode cX6_placeFountain 40 = .ok (.if_icmp .lt 13, 3) := by decide +kernel
theorem dX6_placeFountain_43 : decode cX6_placeFountain 43 = .ok (.aload 4, 2) := by decide +kernel
theorem dX6_placeFountain_45 : decode cX6_placeFountain 45 = .ok (.iconst 2, 1) := by decide +kernel
theorem dX6_placeFountain_46 : decode cX6_placeFountain 46 = .ok (.iconst 4, 1) := by decide +kernel
theorem dX6_placeFountain_47 : decode cX6_placeFountain 47 = .ok (.invokevirtual 56, 3) := by decide +kernel
theorem dX6_placeFountain_50 : decode cX6_placeFountain 50 = .ok (.goto 89, 3) := by decide +kernel
theorem dX6_placeFountain_53 : decode cX6_placeFountain 53 = .ok (.aload_n 0, 1) := by decide +kernel
theorem dX6_placeFountain_54 : decode cX6_placeFountain 54 = .ok (.iload_n 1, 1) := by decide +kernel
theorem dX6_placeFountain_55 : decode cX6_placeFountain 55 = .ok (.iload_n 2, 1) := by decide +kernel
theorem dX6_placeFountain_56 : decode cX6_placeFountain 56 = .ok (.invokevirtual 60, 3) := by decide +kernel
theorem dX6_placeFountain_59 : decode cX6_placeFountain 59 = .ok (.iconst (-1), 1) := by decide +kernel
theorem dX6_placeFountain_60 : decode cX6_placeFountain 60 = .ok (.if_icmp .eq 18, 3) := by decide +kernel
theorem dX6_placeFountain_63 : decode cX6_placeFountain 63 = .ok (.aload 4, 2) := by decide +kernel
theorem dX6_placeFountain_65 : decode cX6_placeFountain 65 = .ok (.iconst 4, 1) := by decide +kernel
theorem dX6_placeFountain_66 : decode cX6_placeFountain 66 = .ok (.aload_n 0, 1) := by decide +kernel
theorem dX6_placeFountain_67 : decode cX6_placeFountain 67 = .ok (.iload_n 1, 1) := by decide +kernel
theorem dX6_placeFountain_68 : decode cX6_placeFountain 68 = .ok (.iload_n 2, 1) := by decide +kernel
theorem dX6_placeFountain_69 : decode cX6_placeFountain 69 = .ok (.invokevirtual 60, 3) := by decide +kernel
theorem dX6_placeFountain_72 : decode cX6_placeFountain 72 = .ok (.invokevirtual 56, 3) := by decide +kernel
theorem dX6_placeFountain_75 : decode cX6_placeFountain 75 = .ok (.goto 64, 3) := by decide +kernel
theorem dX6_placeFountain_78 : decode cX6_placeFountain 78 = .ok (.aload_n 0, 1) := by decide +kernel
theorem dX6_placeFountain_79 : decode cX6_placeFountain 79 = .ok (.getfield 28, 3) := by decide +kernel
theorem dX6_placeFountain_82 : decode cX6_placeFountain 82 = .ok (.aload_n 0, 1) := by decide +kernel
theorem dX6_placeFountain_83 : decode cX6_placeFountain 83 = .ok (.getfield 25, 3) := by decide +kernel
theorem dX6_placeFountain_86 : decode cX6_placeFountain 86 = .ok (.iload_n 1, 1) := by decide +kernel
theorem dX6_placeFountain_87 : decode cX6_placeFountain 87 = .ok (.iastore, 1) := by decide +kernel
theorem dX6_placeFountain_88 : decode cX6_placeFountain 88 = .ok (.aload_n 0, 1) := by decide +kernel
theorem dX6_placeFountain_89 : decode cX6_placeFountain 89 = .ok (.getfield 31, 3) := by decide +kernel
theorem dX6_placeFountain_92 : decode cX6_placeFountain 92 = .ok (.aload_n 0, 1) := by decide +kernel
theorem dX6_placeFountain_93 : decode cX6_placeFountain 93 = .ok (.getfield 25, 3) := by decide +kernel
theorem dX6_placeFountain_96 : decode cX6_placeFountain 96 = .ok (.iload_n 2, 1) := by decide +kernel
theorem dX6_placeFountain_97 : decode cX6_placeFountain 97 = .ok (.iastore, 1) := by decide +kernel
theorem dX6_placeFountain_98 : decode cX6_placeFountain 98 = .ok (.aload_n 0, 1) := by decide +kernel
theorem dX6_placeFountain_99 : decode cX6_placeFountain 99 = .ok (.getfield 34, 3) := by decide +kernel
theorem dX6_placeFountain_102 : decode cX6_placeFountain 102 = .ok (.aload_n 0, 1) := by decide +kernel
theorem dX6_placeFountain_103 : decode cX6_placeFountain 103 = .ok (.getfield 25, 3) := by decide +kernel
theorem dX6_placeFountain_106 : decode cX6_placeFountain 106 = .ok (.iload_n 3, 1) := by decide +kernel
theorem dX6_placeFountain_107 : decode cX6_placeFountain 107 = .ok (.iastore, 1) := by decide +kernel
theorem dX6_placeFountain_108 : decode cX6_placeFountain 108 = .ok (.aload_n 0, 1) := by decide +kernel
theorem dX6_placeFountain_109 : decode cX6_placeFountain 109 = .ok (.getfield 37, 3) := by decide +kernel
theorem dX6_placeFountain_112 : decode cX6_placeFountain 112 = .ok (.aload_n 0, 1) := by decide +kernel
theorem dX6_placeFountain_113 : decode cX6_placeFountain 113 = .ok (.getfield 25, 3) := by decide +kernel
theorem dX6_placeFountain_116 : decode cX6_placeFountain 116 = .ok (.iconst 1, 1) := by decide +kernel
theorem dX6_placeFountain_117 : decode cX6_placeFountain 117 = .ok (.bastore, 1) := by decide +kernel
theorem dX6_placeFountain_118 : decode cX6_placeFountain 118 = .ok (.aload_n 0, 1) := by decide +kernel
theorem dX6_placeFountain_119 : decode cX6_placeFountain 119 = .ok (.dup, 1) := by decide +kernel
theorem dX6_placeFountain_120 : decode cX6_placeFountain 120 = .ok (.getfield 25, 3) := by decide +kernel
theorem dX6_placeFountain_123 : decode cX6_placeFountain 123 = .ok (.iconst 1, 1) := by decide +kernel
theorem dX6_placeFountain_124 : decode cX6_placeFountain 124 = .ok (.iadd, 1) := by decide +kernel
theorem dX6_placeFountain_125 : decode cX6_placeFountain 125 = .ok (.putfield 25, 3) := by decide +kernel
theorem dX6_placeFountain_128 : decode cX6_placeFountain 128 = .ok (.aload 4, 2) := by decide +kernel
theorem dX6_placeFountain_130 : decode cX6_placeFountain 130 = .ok (.aload_n 0, 1) := by decide +kernel
theorem dX6_placeFountain_131 : decode cX6_placeFountain 131 = .ok (.getfield 25, 3) := by decide +kernel
theorem dX6_placeFountain_134 : decode cX6_placeFountain 134 = .ok (.iconst 1, 1) := by decide +kernel
theorem dX6_placeFountain_135 : decode cX6_placeFountain 135 = .ok (.isub, 1) := by decide +kernel
theorem dX6_placeFountain_136 : decode cX6_placeFountain 136 = .ok (.invokevirtual 64, 3) := by decide +kernel
theorem dX6_placeFountain_139 : decode cX6_placeFountain 139 = .ok (.return_, 1) := by decide +kernel
theorem dX6_changeLoudness_0 : decode cX6_changeLoudness 0 = .ok (.aload_n 0, 1) := by decide +kernel
theorem dX6_changeLoudness_1 : decode cX6_changeLoudness 1 = .ok (.iload_n 1, 1) := by decide +kernel
theorem dX6_changeLoudness_2 : decode cX6_changeLoudness 2 = .ok (.invokevirtual 72, 3) := by decide +kernel
theorem dX6_changeLoudness_5 : decode cX6_changeLoudness 5 = .ok (.ifCond .ne 10, 3) := by decide +kernel
theorem dX6_changeLoudness_8 : decode cX6_changeLoudness 8 = .ok (.aload_n 3, 1) := by decide +kernel
theorem dX6_changeLoudness_9 : decode cX6_changeLoudness 9 = .ok (.invokevirtual 48, 3) := by decide +kernel
theorem dX6_changeLoudness_12 : decode cX6_changeLoudness 12 = .ok (.goto 38, 3) := by decide +kernel
theorem dX6_changeLoudness_15 : decode cX6_changeLoudness 15 = .ok (.iload_n 2, 1) := by decide +kernel
theorem dX6_changeLoudness_16 : decode cX6_changeLoudness 16 = .ok (.iconst 1, 1) := by decide +kernel
theorem dX6_changeLoudness_17 : decode cX6_changeLoudness 17 = .ok (.if_icmp .lt 9, 3) := by decide +kernel
theorem dX6_changeLoudness_20 : decode cX6_changeLoudness 20 = .ok (.iload_n 2, 1) := by decide +kernel
theorem dX6_changeLoudness_21 : decode cX6_changeLoudness 21 = .ok (.bipush 9, 2) := by decide +kernel
theorem dX6_changeLoudness_23 : decode cX6_changeLoudness 23 = .ok (.if_icmp .le 10, 3) := by decide +kernel
theorem dX6_changeLoudness_26 : decode cX6_changeLoudness 26 = .ok (.aload_n 3, 1) := by decide +kernel
theorem dX6_changeLoudness_27 : decode cX6_changeLoudness 27 = .ok (.invokevirtual 53, 3) := by decide +kernel
theorem dX6_changeLoudness_30 : decode cX6_changeLoudness 30 = .ok (.goto 20, 3) := by decide +kernel
theorem dX6_changeLoudness_33 : decode cX6_changeLoudness 33 = .ok (.aload_n 3, 1) := by decide +kernel
theorem dX6_changeLoudness_34 : decode cX6_changeLoudness 34 = .ok (.aload_n 0, 1) := by decide +kernel
theorem dX6_changeLoudness_35 : decode cX6_changeLoudness 35 = .ok (.getfield 34, 3) := by decide +kernel
theorem dX6_changeLoudness_38 : decode cX6_changeLoudness 38 = .ok (.iload_n 1, 1) := by decide +kernel
theorem dX6_changeLoudness_39 : decode cX6_changeLoudness 39 = .ok (.iaload, 1) := by decide +kernel
theorem dX6_changeLoudness_40 : decode cX6_changeLoudness 40 = .ok (.invokevirtual 64, 3) := by decide +kernel
theorem dX6_changeLoudness_43 : decode cX6_changeLoudness 43 = .ok (.aload_n 0, 1) := by decide +kernel
theorem dX6_changeLoudness_44 : decode cX6_changeLoudness 44 = .ok (.getfield 34, 3) := by decide +kernel
theorem dX6_changeLoudness_47 : decode cX6_changeLoudness 47 = .ok (.iload_n 1, 1) := by decide +kernel
theorem dX6_changeLoudness_48 : decode cX6_changeLoudness 48 = .ok (.iload_n 2, 1) := by decide +kernel
theorem dX6_changeLoudness_49 : decode cX6_changeLoudness 49 = .ok (.iastore, 1) := by decide +kernel
theorem dX6_changeLoudness_50 : decode cX6_changeLoudness 50 = .ok (.return_, 1) := by decide +kernel
theorem dX6_toggle_0 : decode cX6_toggle 0 = .ok (.aload_n 0, 1) := by decide +kernel
theorem dX6_toggle_1 : decode cX6_toggle 1 = .ok (.iload_n 1, 1) := by decide +kernel
theorem dX6_toggle_2 : decode cX6_toggle 2 = .ok (.invokevirtual 72, 3) := by decide +kernel
theorem dX6_toggle_5 : decode cX6_toggle 5 = .ok (.ifCond .ne 10, 3) := by decide +kernel
theorem dX6_toggle_8 : decode cX6_toggle 8 = .ok (.aload_n 2, 1) := by decide +kernel
theorem dX6_toggle_9 : decode cX6_toggle 9 = .ok (.invokevirtual 48, 3) := by decide +kernel
theorem dX6_toggle_12 : decode cX6_toggle 12 = .ok (.goto 41, 3) := by decide +kernel
theorem dX6_toggle_15 : decode cX6_toggle 15 = .ok (.aload_n 0, 1) := by decide +kernel
theorem dX6_toggle_16 : decode cX6_toggle 16 = .ok (.getfield 37, 3) := by decide +kernel
theorem dX6_toggle_19 : decode cX6_toggle 19 = .ok (.iload_n 1, 1) := by decide +kernel
theorem dX6_toggle_20 : decode cX6_toggle 20 = .ok (.aload_n 0, 1) := by decide +kernel
theorem dX6_toggle_21 : decode cX6_toggle 21 = .ok (.getfield 37, 3) := by decide +kernel
theorem dX6_toggle_24 : decode cX6_toggle 24 = .ok (.iload_n 1, 1) := by decide +kernel
theorem dX6_toggle_25 : decode cX6_toggle 25 = .ok (.baload, 1) := by decide +kernel
theorem dX6_toggle_26 : decode cX6_toggle 26 = .ok (.ifCond .ne 7, 3) := by decide +kernel
theorem dX6_toggle_29 : decode cX6_toggle 29 = .ok (.iconst 1, 1) := by decide +kernel
theorem dX6_toggle_30 : decode cX6_toggle 30 = .ok (.goto 4, 3) := by decide +kernel
theorem dX6_toggle_33 : decode cX6_toggle 33 = .ok (.iconst 0, 1) := by decide +kernel
theorem dX6_toggle_34 : decode cX6_toggle 34 = .ok (.bastore, 1) := by decide +kernel
theorem dX6_toggle_35 : decode cX6_toggle 35 = .ok (.aload_n 2, 1) := by decide +kernel
theorem dX6_toggle_36 : decode cX6_toggle 36 = .ok (.aload_n 0, 1) := by decide +kernel
theorem dX6_toggle_37 : decode cX6_toggle 37 = .ok (.getfield 37, 3) := by decide +kernel
theorem dX6_toggle_40 : decode cX6_toggle 40 = .ok (.iload_n 1, 1) := by decide +kernel
theorem dX6_toggle_41 : decode cX6_toggle 41 = .ok (.baload, 1) := by decide +kernel
theorem dX6_toggle_42 : decode cX6_toggle 42 = .ok (.ifCond .eq 7, 3) := by decide +kernel
theorem dX6_toggle_45 : decode cX6_toggle 45 = .ok (.iconst 1, 1) := by decide +kernel
theorem dX6_toggle_46 : decode cX6_toggle 46 = .ok (.goto 4, 3) := by decide +kernel
theorem dX6_toggle_49 : decode cX6_toggle 49 = .ok (.iconst 0, 1) := by decide +kernel
theorem dX6_toggle_50 : decode cX6_toggle 50 = .ok (.invokevirtual 64, 3) := by decide +kernel
theorem dX6_toggle_53 : decode cX6_toggle 53 = .ok (.return_, 1) := by decide +kernel
theorem dX6_changeLimit_0 : decode cX6_changeLimit 0 = .ok (.iload_n 1, 1) := by decide +kernel
theorem dX6_changeLimit_1 : decode cX6_changeLimit 1 = .ok (.ifCond .lt 9, 3) := by decide +kernel
theorem dX6_changeLimit_4 : decode cX6_changeLimit 4 = .ok (.iload_n 1, 1) := by decide +kernel
theorem dX6_changeLimit_5 : decode cX6_changeLimit 5 = .ok (.bipush 20, 2) := by decide +kernel
theorem dX6_changeLimit_7 : decode cX6_changeLimit 7 = .ok (.if_icmp .le 10, 3) := by decide +kernel
theorem dX6_changeLimit_10 : decode cX6_changeLimit 10 = .ok (.aload_n 2, 1) := by decide +kernel
theorem dX6_changeLimit_11 : decode cX6_changeLimit 11 = .ok (.invokevirtual 53, 3) := by decide +kernel
theorem dX6_changeLimit_14 : decode cX6_changeLimit 14 = .ok (.goto 16, 3) := by decide +kernel
theorem dX6_changeLimit_17 : decode cX6_changeLimit 17 = .ok (.aload_n 2, 1) := by decide +kernel
theorem dX6_changeLimit_18 : decode cX6_changeLimit 18 = .ok (.aload_n 0, 1) := by decide +kernel
theorem dX6_changeLimit_19 : decode cX6_changeLimit 19 = .ok (.getfield 41, 3) := by decide +kernel
theorem dX6_changeLimit_22 : decode cX6_changeLimit 22 = .ok (.invokevirtual 64, 3) := by decide +kernel
theorem dX6_changeLimit_25 : decode cX6_changeLimit 25 = .ok (.aload_n 0, 1) := by decide +kernel
theorem dX6_changeLimit_26 : decode cX6_changeLimit 26 = .ok (.iload_n 1, 1) := by decide +kernel
theorem dX6_changeLimit_27 : decode cX6_changeLimit 27 = .ok (.putfield 41, 3) := by decide +kernel
theorem dX6_changeLimit_30 : decode cX6_changeLimit 30 = .ok (.return_, 1) := by decide +kernel
theorem dX6_holder_0 : decode cX6_holder 0 = .ok (.iconst 0, 1) := by decide +kernel
theorem dX6_holder_1 : decode cX6_holder 1 = .ok (.istore_n 3, 1) := by decide +kernel
theorem dX6_holder_2 : decode cX6_holder 2 = .ok (.iload_n 3, 1) := by decide +kernel
theorem dX6_holder_3 : decode cX6_holder 3 = .ok (.aload_n 0, 1) := by decide +kernel
theorem dX6_holder_4 : decode cX6_holder 4 = .ok (.getfield 9, 3) := by decide +kernel
theorem dX6_holder_7 : decode cX6_holder 7 = .ok (.if_icmp .ge 31, 3) := by decide +kernel
theorem dX6_holder_10 : decode cX6_holder 10 = .ok (.aload_n 0, 1) := by decide +kernel
theorem dX6_holder_11 : decode cX6_holder 11 = .ok (.getfield 15, 3) := by decide +kernel
theorem dX6_holder_14 : decode cX6_holder 14 = .ok (.iload_n 3, 1) := by decide +kernel
theorem dX6_holder_15 : decode cX6_holder 15 = .ok (.iaload, 1) := by decide +kernel
theorem dX6_holder_16 : decode cX6_holder 16 = .ok (.iload_n 1, 1) := by decide +kernel
theorem dX6_holder_17 : decode cX6_holder 17 = .ok (.if_icmp .ne 15, 3) := by decide +kernel
theorem dX6_holder_20 : decode cX6_holder 20 = .ok (.aload_n 0, 1) := by decide +kernel
theorem dX6_holder_21 : decode cX6_holder 21 = .ok (.getfield 19, 3) := by decide +kernel
theorem dX6_holder_24 : decode cX6_holder 24 = .ok (.iload_n 3, 1) := by decide +kernel
theorem dX6_holder_25 : decode cX6_holder 25 = .ok (.iaload, 1) := by decide +kernel
theorem dX6_holder_26 : decode cX6_holder 26 = .ok (.iload_n 2, 1) := by decide +kernel
theorem dX6_holder_27 : decode cX6_holder 27 = .ok (.if_icmp .ne 5, 3) := by decide +kernel
theorem dX6_holder_30 : decode cX6_holder 30 = .ok (.iload_n 3, 1) := by decide +kernel
theorem dX6_holder_31 : decode cX6_holder 31 = .ok (.ireturn, 1) := by decide +kernel
theorem dX6_holder_32 : decode cX6_holder 32 = .ok (.iinc 3 1, 3) := by decide +kernel
theorem dX6_holder_35 : decode cX6_holder 35 = .ok (.goto (-33), 3) := by decide +kernel
theorem dX6_holder_38 : decode cX6_holder 38 = .ok (.iconst 0, 1) := by decide +kernel
theorem dX6_holder_39 : decode cX6_holder 39 = .ok (.istore_n 3, 1) := by decide +kernel
theorem dX6_holder_40 : decode cX6_holder 40 = .ok (.iload_n 3, 1) := by decide +kernel
theorem dX6_holder_41 : decode cX6_holder 41 = .ok (.aload_n 0, 1) := by decide +kernel
theorem dX6_holder_42 : decode cX6_holder 42 = .ok (.getfield 25, 3) := by decide +kernel
theorem dX6_holder_45 : decode cX6_holder 45 = .ok (.if_icmp .ge 34, 3) := by decide +kernel
theorem dX6_holder_48 : decode cX6_holder 48 = .ok (.aload_n 0, 1) := by decide +kernel
theorem dX6_holder_49 : decode cX6_holder 49 = .ok (.getfield 28, 3) := by decide +kernel
theorem dX6_holder_52 : decode cX6_holder 52 = .ok (.iload_n 3, 1) := by decide +kernel
theorem dX6_holder_53 : decode cX6_holder 53 = .ok (.iaload, 1) := by decide +kernel
theorem dX6_holder_54 : decode cX6_holder 54 = .ok (.iload_n 1, 1) := by decide +kernel
theorem dX6_holder_55 : decode cX6_holder 55 = .ok (.if_icmp .ne 18, 3) := by decide +kernel
theorem dX6_holder_58 : decode cX6_holder 58 = .ok (.aload_n 0, 1) := by decide +kernel
theorem dX6_holder_59 : decode cX6_holder 59 = .ok (.getfield 31, 3) := by decide +kernel
theorem dX6_holder_62 : decode cX6_holder 62 = .ok (.iload_n 3, 1) := by decide +kernel
theorem dX6_holder_63 : decode cX6_holder 63 = .ok (.iaload, 1) := by decide +kernel
theorem dX6_holder_64 : decode cX6_holder 64 = .ok (.iload_n 2, 1) := by decide +kernel
theorem dX6_holder_65 : decode cX6_holder 65 = .ok (.if_icmp .ne 8, 3) := by decide +kernel
theorem dX6_holder_68 : decode cX6_holder 68 = .ok (.bipush 10, 2) := by decide +kernel
theorem dX6_holder_70 : decode cX6_holder 70 = .ok (.iload_n 3, 1) := by decide +kernel
theorem dX6_holder_71 : decode cX6_holder 71 = .ok (.iadd, 1) := by decide +kernel
theorem dX6_holder_72 : decode cX6_holder 72 = .ok (.ireturn, 1) := by decide +kernel
theorem dX6_holder_73 : decode cX6_holder 73 = .ok (.iinc 3 1, 3) := by decide +kernel
theorem dX6_holder_76 : decode cX6_holder 76 = .ok (.goto (-36), 3) := by decide +kernel
theorem dX6_holder_79 : decode cX6_holder 79 = .ok (.iconst (-1), 1) := by decide +kernel
theorem dX6_holder_80 : decode cX6_holder 80 = .ok (.ireturn, 1) := by decide +kernel
theorem dX6_signAt_0 : decode cX6_signAt 0 = .ok (.aload_n 0, 1) := by decide +kernel
theorem dX6_signAt_1 : decode cX6_signAt 1 = .ok (.iload_n 1, 1) := by decide +kernel
theorem dX6_signAt_2 : decode cX6_signAt 2 = .ok (.iload_n 2, 1) := by decide +kernel
theorem dX6_signAt_3 : decode cX6_signAt 3 = .ok (.invokevirtual 60, 3) := by decide +kernel
theorem dX6_signAt_6 : decode cX6_signAt 6 = .ok (.istore_n 3, 1) := by decide +kernel
theorem dX6_signAt_7 : decode cX6_signAt 7 = .ok (.iload_n 3, 1) := by decide +kernel
theorem dX6_signAt_8 : decode cX6_signAt 8 = .ok (.iconst (-1), 1) := by decide +kernel
theorem dX6_signAt_9 : decode cX6_signAt 9 = .ok (.if_icmp .ne 6, 3) := by decide +kernel
theorem dX6_signAt_12 : decode cX6_signAt 12 = .ok (.bipush 46, 2) := by decide +kernel
theorem dX6_signAt_14 : decode cX6_signAt 14 = .ok (.ireturn, 1) := by decide +kernel
theorem dX6_signAt_15 : decode cX6_signAt 15 = .ok (.iload_n 3, 1) := by decide +kernel
theorem dX6_signAt_16 : decode cX6_signAt 16 = .ok (.bipush 10, 2) := by decide +kernel
theorem dX6_signAt_18 : decode cX6_signAt 18 = .ok (.if_icmp .ge 9, 3) := by decide +kernel
theorem dX6_signAt_21 : decode cX6_signAt 21 = .ok (.bipush 48, 2) := by decide +kernel
theorem dX6_signAt_23 : decode cX6_signAt 23 = .ok (.iload_n 3, 1) := by decide +kernel
theorem dX6_signAt_24 : decode cX6_signAt 24 = .ok (.iadd, 1) := by decide +kernel
theorem dX6_signAt_25 : decode cX6_signAt 25 = .ok (.i2c, 1) := by decide +kernel
theorem dX6_signAt_26 : decode cX6_signAt 26 = .ok (.ireturn, 1) := by decide +kernel
theorem dX6_signAt_27 : decode cX6_signAt 27 = .ok (.aload_n 0, 1) := by decide +kernel
theorem dX6_signAt_28 : decode cX6_signAt 28 = .ok (.getfield 37, 3) := by decide +kernel
theorem dX6_signAt_31 : decode cX6_signAt 31 = .ok (.iload_n 3, 1) := by decide +kernel
theorem dX6_signAt_32 : decode cX6_signAt 32 = .ok (.bipush 10, 2) := by decide +kernel
theorem dX6_signAt_34 : decode cX6_signAt 34 = .ok (.isub, 1) := by decide +kernel
theorem dX6_signAt_35 : decode cX6_signAt 35 = .ok (.baload, 1) := by decide +kernel
theorem dX6_signAt_36 : decode cX6_signAt 36 = .ok (.ifCond .eq 8, 3) := by decide +kernel
theorem dX6_signAt_39 : decode cX6_signAt 39 = .ok (.bipush 70, 2) := by decide +kernel
theorem dX6_signAt_41 : decode cX6_signAt 41 = .ok (.goto 5, 3) := by decide +kernel
theorem dX6_signAt_44 : decode cX6_signAt 44 = .ok (.bipush 102, 2) := by decide +kernel
theorem dX6_signAt_46 : decode cX6_signAt 46 = .ok (.ireturn, 1) := by decide +kernel
theorem dX6_noise_0 : decode cX6_noise 0 = .ok (.iconst 0, 1) := by decide +kernel
theorem dX6_noise_1 : decode cX6_noise 1 = .ok (.istore_n 3, 1) := by decide +kernel
theorem dX6_noise_2 : decode cX6_noise 2 = .ok (.iconst 0, 1) := by decide +kernel
theorem dX6_noise_3 : decode cX6_noise 3 = .ok (.istore 4, 2) := by decide +kernel
theorem dX6_noise_5 : decode cX6_noise 5 = .ok (.iload 4, 2) := by decide +kernel
theorem dX6_noise_7 : decode cX6_noise 7 = .ok (.aload_n 0, 1) := by decide +kernel
theorem dX6_noise_8 : decode cX6_noise 8 = .ok (.getfield 25, 3) := by decide +kernel
theorem dX6_noise_11 : decode cX6_noise 11 = .ok (.if_icmp .ge 70, 3) := by decide +kernel
theorem dX6_noise_14 : decode cX6_noise 14 = .ok (.aload_n 0, 1) := by decide +kernel
theorem dX6_noise_15 : decode cX6_noise 15 = .ok (.getfield 28, 3) := by decide +kernel
theorem dX6_noise_18 : decode cX6_noise 18 = .ok (.iload 4, 2) := by decide +kernel
theorem dX6_noise_20 : decode cX6_noise 20 = .ok (.iaload, 1) := by decide +kernel
theorem dX6_noise_21 : decode cX6_noise 21 = .ok (.iload_n 1, 1) := by decide +kernel
theorem dX6_noise_22 : decode cX6_noise 22 = .ok (.isub, 1) := by decide +kernel
theorem dX6_noise_23 : decode cX6_noise 23 = .ok (.invokestatic 75, 3) := by decide +kernel
theorem dX6_noise_26 : decode cX6_noise 26 = .ok (.aload_n 0, 1) := by decide +kernel
theorem dX6_noise_27 : decode cX6_noise 27 = .ok (.getfield 31, 3) := by decide +kernel
theorem dX6_noise_30 : decode cX6_noise 30 = .ok (.iload 4, 2) := by decide +kernel
theorem dX6_noise_32 : decode cX6_noise 32 = .ok (.iaload, 1) := by decide +kernel
theorem dX6_noise_33 : decode cX6_noise 33 = .ok (.iload_n 2, 1) := by decide +kernel
theorem dX6_noise_34 : decode cX6_noise 34 = .ok (.isub, 1) := by decide +kernel
theorem dX6_noise_35 : decode cX6_noise 35 = .ok (.invokestatic 75, 3) := by decide +kernel
theorem dX6_noise_38 : decode cX6_noise 38 = .ok (.iadd, 1) := by decide +kernel
theorem dX6_noise_39 : decode cX6_noise 39 = .ok (.istore 5, 2) := by decide +kernel
theorem dX6_noise_41 : decode cX6_noise 41 = .ok (.aload_n 0, 1) := by decide +kernel
theorem dX6_noise_42 : decode cX6_noise 42 = .ok (.getfield 34, 3) := by decide +kernel
theorem dX6_noise_45 : decode cX6_noise 45 = .ok (.iload 4, 2) := by decide +kernel
theorem dX6_noise_47 : decode cX6_noise 47 = .ok (.iaload, 1) := by decide +kernel
theorem dX6_noise_48 : decode cX6_noise 48 = .ok (.iconst 2, 1) := by decide +kernel
theorem dX6_noise_49 : decode cX6_noise 49 = .ok (.iload 5, 2) := by decide +kernel
theorem dX6_noise_51 : decode cX6_noise 51 = .ok (.imul, 1) := by decide +kernel
theorem dX6_noise_52 : decode cX6_noise 52 = .ok (.isub, 1) := by decide +kernel
theorem dX6_noise_53 : decode cX6_noise 53 = .ok (.istore 6, 2) := by decide +kernel
theorem dX6_noise_55 : decode cX6_noise 55 = .ok (.aload_n 0, 1) := by decide +kernel
theorem dX6_noise_56 : decode cX6_noise 56 = .ok (.getfield 37, 3) := by decide +kernel
theorem dX6_noise_59 : decode cX6_noise 59 = .ok (.iload 4, 2) := by decide +kernel
theorem dX6_noise_61 : decode cX6_noise 61 = .ok (.baload, 1) := by decide +kernel
theorem dX6_noise_62 : decode cX6_noise 62 = .ok (.ifCond .eq 13, 3) := by decide +kernel
theorem dX6_noise_65 : decode cX6_noise 65 = .ok (.iload 6, 2) := by decide +kernel
theorem dX6_noise_67 : decode cX6_noise 67 = .ok (.ifCond .le 8, 3) := by decide +kernel
theorem dX6_noise_70 : decode cX6_noise 70 = .ok (.iload_n 3, 1) := by decide +kernel
theorem dX6_noise_71 : decode cX6_noise 71 = .ok (.iload 6, 2) := by decide +kernel
theorem dX6_noise_73 : decode cX6_noise 73 = .ok (.iadd, 1) := by decide +kernel
theorem dX6_noise_74 : decode cX6_noise 74 = .ok (.istore_n 3, 1) := by decide +kernel
theorem dX6_noise_75 : decode cX6_noise 75 = .ok (.iinc 4 1, 3) := by decide +kernel
theorem dX6_noise_78 : decode cX6_noise 78 = .ok (.goto (-73), 3) := by decide +kernel
theorem dX6_noise_81 : decode cX6_noise 81 = .ok (.iload_n 3, 1) := by decide +kernel
theorem dX6_noise_82 : decode cX6_noise 82 = .ok (.ireturn, 1) := by decide +kernel
theorem dX6_rent_0 : decode cX6_rent 0 = .ok (.iconst 1, 1) := by decide +kernel
theorem dX6_rent_1 : decode cX6_rent 1 = .ok (.aload_n 0, 1) := by decide +kernel
theorem dX6_rent_2 : decode cX6_rent 2 = .ok (.getfield 22, 3) := by decide +kernel
theorem dX6_rent_5 : decode cX6_rent 5 = .ok (.iload_n 1, 1) := by decide +kernel
theorem dX6_rent_6 : decode cX6_rent 6 = .ok (.iaload, 1) := by decide +kernel
theorem dX6_rent_7 : decode cX6_rent 7 = .ok (.aload_n 0, 1) := by decide +kernel
theorem dX6_rent_8 : decode cX6_rent 8 = .ok (.aload_n 0, 1) := by decide +kernel
theorem dX6_rent_9 : decode cX6_rent 9 = .ok (.getfield 15, 3) := by decide +kernel
theorem dX6_rent_12 : decode cX6_rent 12 = .ok (.iload_n 1, 1) := by decide +kernel
theorem dX6_rent_13 : decode cX6_rent 13 = .ok (.iaload, 1) := by decide +kernel
theorem dX6_rent_14 : decode cX6_rent 14 = .ok (.aload_n 0, 1) := by decide +kernel
theorem dX6_rent_15 : decode cX6_rent 15 = .ok (.getfield 19, 3) := by decide +kernel
theorem dX6_rent_18 : decode cX6_rent 18 = .ok (.iload_n 1, 1) := by decide +kernel
theorem dX6_rent_19 : decode cX6_rent 19 = .ok (.iaload, 1) := by decide +kernel
theorem dX6_rent_20 : decode cX6_rent 20 = .ok (.invokevirtual 81, 3) := by decide +kernel
theorem dX6_rent_23 : decode cX6_rent 23 = .ok (.isub, 1) := by decide +kernel
theorem dX6_rent_24 : decode cX6_rent 24 = .ok (.invokestatic 84, 3) := by decide +kernel
theorem dX6_rent_27 : decode cX6_rent 27 = .ok (.ireturn, 1) := by decide +kernel
theorem dX6_quiet_0 : decode cX6_quiet 0 = .ok (.aload_n 0, 1) := by decide +kernel
theorem dX6_quiet_1 : decode cX6_quiet 1 = .ok (.aload_n 0, 1) := by decide +kernel
theorem dX6_quiet_2 : decode cX6_quiet 2 = .ok (.getfield 15, 3) := by decide +kernel
theorem dX6_quiet_5 : decode cX6_quiet 5 = .ok (.iload_n 1, 1) := by decide +kernel
theorem dX6_quiet_6 : decode cX6_quiet 6 = .ok (.iaload, 1) := by decide +kernel
theorem dX6_quiet_7 : decode cX6_quiet 7 = .ok (.aload_n 0, 1) := by decide +kernel
theorem dX6_quiet_8 : decode cX6_quiet 8 = .ok (.getfield 19, 3) := by decide +kernel
theorem dX6_quiet_11 : decode cX6_quiet 11 = .ok (.iload_n 1, 1) := by decide +kernel
theorem dX6_quiet_12 : decode cX6_quiet 12 = .ok (.iaload, 1) := by decide +kernel
theorem dX6_quiet_13 : decode cX6_quiet 13 = .ok (.invokevirtual 81, 3) := by decide +kernel
theorem dX6_quiet_16 : decode cX6_quiet 16 = .ok (.aload_n 0, 1) := by decide +kernel
theorem dX6_quiet_17 : decode cX6_quiet 17 = .ok (.getfield 41, 3) := by decide +kernel
theorem dX6_quiet_20 : decode cX6_quiet 20 = .ok (.if_icmp .gt 7, 3) := by decide +kernel
theorem dX6_quiet_23 : decode cX6_quiet 23 = .ok (.iconst 1, 1) := by decide +kernel
theorem dX6_quiet_24 : decode cX6_quiet 24 = .ok (.goto 4, 3) := by decide +kernel
theorem dX6_quiet_27 : decode cX6_quiet 27 = .ok (.iconst 0, 1) := by decide +kernel
theorem dX6_quiet_28 : decode cX6_quiet 28 = .ok (.ireturn, 1) := by decide +kernel
theorem dX6_copyFrom_0 : decode cX6_copyFrom 0 = .ok (.aload_n 0, 1) := by decide +kernel
theorem dX6_copyFrom_1 : decode cX6_copyFrom 1 = .ok (.aload_n 1, 1) := by decide +kernel
theorem dX6_copyFrom_2 : decode cX6_copyFrom 2 = .ok (.getfield 9, 3) := by decide +kernel
theorem dX6_copyFrom_5 : decode cX6_copyFrom 5 = .ok (.putfield 9, 3) := by decide +kernel
theorem dX6_copyFrom_8 : decode cX6_copyFrom 8 = .ok (.aload_n 1, 1) := by decide +kernel
theorem dX6_copyFrom_9 : decode cX6_copyFrom 9 = .ok (.getfield 15, 3) := by decide +kernel
theorem dX6_copyFrom_12 : decode cX6_copyFrom 12 = .ok (.iconst 0, 1) := by decide +kernel
theorem dX6_copyFrom_13 : decode cX6_copyFrom 13 = .ok (.aload_n 0, 1) := by decide +kernel
theorem dX6_copyFrom_14 : decode cX6_copyFrom 14 = .ok (.getfield 15, 3) := by decide +kernel
theorem dX6_copyFrom_17 : decode cX6_copyFrom 17 = .ok (.iconst 0, 1) := by decide +kernel
theorem dX6_copyFrom_18 : decode cX6_copyFrom 18 = .ok (.bipush 10, 2) := by decide +kernel
theorem dX6_copyFrom_20 : decode cX6_copyFrom 20 = .ok (.invokestatic 87, 3) := by decide +kernel
theorem dX6_copyFrom_23 : decode cX6_copyFrom 23 = .ok (.aload_n 1, 1) := by decide +kernel
theorem dX6_copyFrom_24 : decode cX6_copyFrom 24 = .ok (.getfield 19, 3) := by decide +kernel
theorem dX6_copyFrom_27 : decode cX6_copyFrom 27 = .ok (.iconst 0, 1) := by decide +kernel
theorem dX6_copyFrom_28 : decode cX6_copyFrom 28 = .ok (.aload_n 0, 1) := by decide +kernel
theorem dX6_copyFrom_29 : decode cX6_copyFrom 29 = .ok (.getfield 19, 3) := by decide +kernel
theorem dX6_copyFrom_32 : decode cX6_copyFrom 32 = .ok (.iconst 0, 1) := by decide +kernel
theorem dX6_copyFrom_33 : decode cX6_copyFrom 33 = .ok (.bipush 10, 2) := by decide +kernel
theorem dX6_copyFrom_35 : decode cX6_copyFrom 35 = .ok (.invokestatic 87, 3) := by decide +kernel
theorem dX6_copyFrom_38 : decode cX6_copyFrom 38 = .ok (.aload_n 1, 1) := by decide +kernel
theorem dX6_copyFrom_39 : decode cX6_copyFrom 39 = .ok (.getfield 22, 3) := by decide +kernel
theorem dX6_copyFrom_42 : decode cX6_copyFrom 42 = .ok (.iconst 0, 1) := by decide +kernel
theorem dX6_copyFrom_43 : decode cX6_copyFrom 43 = .ok (.aload_n 0, 1) := by decide +kernel
theorem dX6_copyFrom_44 : decode cX6_copyFrom 44 = .ok (.getfield 22, 3) := by decide +kernel
theorem dX6_copyFrom_47 : decode cX6_copyFrom 47 = .ok (.iconst 0, 1) := by decide +kernel
theorem dX6_copyFrom_48 : decode cX6_copyFrom 48 = .ok (.bipush 10, 2) := by decide +kernel
theorem dX6_copyFrom_50 : decode cX6_copyFrom 50 = .ok (.invokestatic 87, 3) := by decide +kernel
theorem dX6_copyFrom_53 : decode cX6_copyFrom 53 = .ok (.aload_n 0, 1) := by decide +kernel
theorem dX6_copyFrom_54 : decode cX6_copyFrom 54 = .ok (.aload_n 1, 1) := by decide +kernel
theorem dX6_copyFrom_55 : decode cX6_copyFrom 55 = .ok (.getfield 25, 3) := by decide +kernel
theorem dX6_copyFrom_58 : decode cX6_copyFrom 58 = .ok (.putfield 25, 3) := by decide +kernel
theorem dX6_copyFrom_61 : decode cX6_copyFrom 61 = .ok (.aload_n 1, 1) := by decide +kernel
theorem dX6_copyFrom_62 : decode cX6_copyFrom 62 = .ok (.getfield 28, 3) := by decide +kernel
theorem dX6_copyFrom_65 : decode cX6_copyFrom 65 = .ok (.iconst 0, 1) := by decide +kernel
theorem dX6_copyFrom_66 : decode cX6_copyFrom 66 = .ok (.aload_n 0, 1) := by decide +kernel
theorem dX6_copyFrom_67 : decode cX6_copyFrom 67 = .ok (.getfield 28, 3) := by decide +kernel
theorem dX6_copyFrom_70 : decode cX6_copyFrom 70 = .ok (.iconst 0, 1) := by decide +kernel
theorem dX6_copyFrom_71 : decode cX6_copyFrom 71 = .ok (.iconst 4, 1) := by decide +kernel
theorem dX6_copyFrom_72 : decode cX6_copyFrom 72 = .ok (.invokestatic 87, 3) := by decide +kernel
theorem dX6_copyFrom_75 : decode cX6_copyFrom 75 = .ok (.aload_n 1, 1) := by decide +kernel
theorem dX6_copyFrom_76 : decode cX6_copyFrom 76 = .ok (.getfield 31, 3) := by decide +kernel
theorem dX6_copyFrom_79 : decode cX6_copyFrom 79 = .ok (.iconst 0, 1) := by decide +kernel
theorem dX6_copyFrom_80 : decode cX6_copyFrom 80 = .ok (.aload_n 0, 1) := by decide +kernel
theorem dX6_copyFrom_81 : decode cX6_copyFrom 81 = .ok (.getfield 31, 3) := by decide +kernel
theorem dX6_copyFrom_84 : decode cX6_copyFrom 84 = .ok (.iconst 0, 1) := by decide +kernel
theorem dX6_copyFrom_85 : decode cX6_copyFrom 85 = .ok (.iconst 4, 1) := by decide +kernel
theorem dX6_copyFrom_86 : decode cX6_copyFrom 86 = .ok (.invokestatic 87, 3) := by decide +kernel
theorem dX6_copyFrom_89 : decode cX6_copyFrom 89 = .ok (.aload_n 1, 1) := by decide +kernel
theorem dX6_copyFrom_90 : decode cX6_copyFrom 90 = .ok (.getfield 34, 3) := by decide +kernel
theorem dX6_copyFrom_93 : decode cX6_copyFrom 93 = .ok (.iconst 0, 1) := by decide +kernel
theorem dX6_copyFrom_94 : decode cX6_copyFrom 94 = .ok (.aload_n 0, 1) := by decide +kernel
theorem dX6_copyFrom_95 : decode cX6_copyFrom 95 = .ok (.getfield 34, 3) := by decide +kernel
theorem dX6_copyFrom_98 : decode cX6_copyFrom 98 = .ok (.iconst 0, 1) := by decide +kernel
theorem dX6_copyFrom_99 : decode cX6_copyFrom 99 = .ok (.iconst 4, 1) := by decide +kernel
theorem dX6_copyFrom_100 : decode cX6_copyFrom 100 = .ok (.invokestatic 87, 3) := by decide +kernel
theorem dX6_copyFrom_103 : decode cX6_copyFrom 103 = .ok (.aload_n 1, 1) := by decide +kernel
theorem dX6_copyFrom_104 : decode cX6_copyFrom 104 = .ok (.getfield 37, 3) := by decide +kernel
theorem dX6_copyFrom_107 : decode cX6_copyFrom 107 = .ok (.iconst 0, 1) := by decide +kernel
theorem dX6_copyFrom_108 : decode cX6_copyFrom 108 = .ok (.aload_n 0, 1) := by decide +kernel
theorem dX6_copyFrom_109 : decode cX6_copyFrom 109 = .ok (.getfield 37, 3) := by decide +kernel
theorem dX6_copyFrom_112 : decode cX6_copyFrom 112 = .ok (.iconst 0, 1) := by decide +kernel
theorem dX6_copyFrom_113 : decode cX6_copyFrom 113 = .ok (.iconst 4, 1) := by decide +kernel
theorem dX6_copyFrom_114 : decode cX6_copyFrom 114 = .ok (.invokestatic 87, 3) := by decide +kernel
theorem dX6_copyFrom_117 : decode cX6_copyFrom 117 = .ok (.aload_n 0, 1) := by decide +kernel
theorem dX6_copyFrom_118 : decode cX6_copyFrom 118 = .ok (.aload_n 1, 1) := by decide +kernel
theorem dX6_copyFrom_119 : decode cX6_copyFrom 119 = .ok (.getfield 41, 3) := by decide +kernel
theorem dX6_copyFrom_122 : decode cX6_copyFrom 122 = .ok (.putfield 41, 3) := by decide +kernel
theorem dX6_copyFrom_125 : decode cX6_copyFrom 125 = .ok (.return_, 1) := by decide +kernel
