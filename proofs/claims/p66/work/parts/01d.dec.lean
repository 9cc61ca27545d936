theorem dX8_init_0 : decode cX8_init 0 = .ok (.aload_n 0, 1) := by decide +kernel
theorem dX8_init_1 : decode cX8_init 1 = .ok (.invokespecial 1, 3) := by decide +kernel
theorem dX8_init_4 : decode cX8_init 4 = .ok (.aload_n 0, 1) := by decide +kernel
theorem dX8_init_5 : decode cX8_init 5 = .ok (.new 7, 3) := by decide +kernel
theorem dX8_init_8 : decode cX8_init 8 = .ok (.dup, 1) := by decide +kernel
theorem dX8_init_9 : decode cX8_init 9 = .ok (.invokespecial 9, 3) := by decide +kernel
theorem dX8_init_12 : decode cX8_init 12 = .ok (.putfield 10, 3) := by decide +kernel
theorem dX8_init_15 : decode cX8_init 15 = .ok (.aload_n 0, 1) := by decide +kernel
theorem dX8_init_16 : decode cX8_init 16 = .ok (.new 7, 3) := by decide +kernel
theorem dX8_init_19 : decode cX8_init 19 = .ok (.dup, 1) := by decide +kernel
theorem dX8_init_20 : decode cX8_init 20 = .ok (.invokespecial 9, 3) := by decide +kernel
theorem dX8_init_23 : decode cX8_init 23 = .ok (.putfield 16, 3) := by decide +kernel
theorem dX8_init_26 : decode cX8_init 26 = .ok (.aload_n 0, 1) := by decide +kernel
theorem dX8_init_27 : decode cX8_init 27 = .ok (.new 19, 3) := by decide +kernel
theorem dX8_init_30 : decode cX8_init 30 = .ok (.dup, 1) := by decide +kernel
theorem dX8_init_31 : decode cX8_init 31 = .ok (.invokespecial 21, 3) := by decide +kernel
theorem dX8_init_34 : decode cX8_init 34 = .ok (.putfield 22, 3) := by decide +kernel
theorem dX8_init_37 : decode cX8_init 37 = .ok (.aload_n 0, 1) := by decide +kernel
theorem dX8_init_38 : decode cX8_init 38 = .ok (.new 7, 3) := by decide +kernel
theorem dX8_init_41 : decode cX8_init 41 = .ok (.dup, 1) := by decide +kernel
theorem dX8_init_42 : decode cX8_init 42 = .ok (.invokespecial 9, 3) := by decide +kernel
theorem dX8_init_45 : decode cX8_init 45 = .ok (.putfield 26, 3) := by decide +kernel
theorem dX8_init_48 : decode cX8_init 48 = .ok (.aload_n 0, 1) := by decide +kernel
theorem dX8_init_49 : decode cX8_init 49 = .ok (.iconst 0, 1) := by decide +kernel
theorem dX8_init_50 : decode cX8_init 50 = .ok (.putfield 29, 3) := by decide +kernel
theorem dX8_init_53 : decode cX8_init 53 = .ok (.aload_n 0, 1) := by decide +kernel
theorem dX8_init_54 : decode cX8_init 54 = .ok (.new 33, 3) := by decide +kernel
theorem dX8_init_57 : decode cX8_init 57 = .ok (.dup, 1) := by decide +kernel
theorem dX8_init_58 : decode cX8_init 58 = .ok (.invokespecial 35, 3) := by decide +kernel
theorem dX8_init_61 : decode cX8_init 61 = .ok (.putfield 36, 3) := by decide +kernel
theorem dX8_init_64 : decode cX8_init 64 = .ok (.aload_n 0, 1) := by decide +kernel
theorem dX8_init_65 : decode cX8_init 65 = .ok (.new 40, 3) := by decide +kernel
theorem dX8_init_68 : decode cX8_init 68 = .ok (.dup, 1) := by decide +kernel
theorem dX8_init_69 : decode cX8_init 69 = .ok (.invokespecial 42, 3) := by decide +kernel
theorem dX8_init_72 : decode cX8_init 72 = .ok (.putfield 43, 3) := by decide +kernel
theorem dX8_init_75 : decode cX8_init 75 = .ok (.aload_n 0, 1) := by decide +kernel
theorem dX8_init_76 : decode cX8_init 76 = .ok (.new 47, 3) := by decide +kernel
theorem dX8_init_79 : decode cX8_init 79 = .ok (.dup, 1) := by decide +kernel
theorem dX8_init_80 : decode cX8_init 80 = .ok (.invokespecial 49, 3) := by decide +kernel
theorem dX8_init_83 : decode cX8_init 83 = .ok (.putfield 50, 3) := by decide +kernel
theorem dX8_init_86 : decode cX8_init 86 = .ok (.aload_n 0, 1) := by decide +kernel
theorem dX8_init_87 : decode cX8_init 87 = .ok (.new 54, 3) := by decide +kernel
theorem dX8_init_90 : decode cX8_init 90 = .ok (.dup, 1) := by decide +kernel
theorem dX8_init_91 : decode cX8_init 91 = .ok (.invokespecial 56, 3) := by decide +kernel
theorem dX8_init_94 : decode cX8_init 94 = .ok (.putfield 57, 3) := by decide +kernel
theorem dX8_init_97 : decode cX8_init 97 = .ok (.aload_n 0, 1) := by decide +kernel
theorem dX8_init_98 : decode cX8_init 98 = .ok (.iconst 0, 1) := by decide +kernel
theorem dX8_init_99 : decode cX8_init 99 = .ok (.putfield 61, 3) := by decide +kernel
theorem dX8_init_102 : decode cX8_init 102 = .ok (.aload_n 0, 1) := by decide +kernel
theorem dX8_init_103 : decode cX8_init 103 = .ok (.iconst 0, 1) := by decide +kernel
theorem dX8_init_104 : decode cX8_init 104 = .ok (.putfield 65, 3) := by decide +kernel
theorem dX8_init_107 : decode cX8_init 107 = .ok (.aload_n 0, 1) := by decide +kernel
theorem dX8_init_108 : decode cX8_init 108 = .ok (.iconst 0, 1) := by decide +kernel
theorem dX8_init_109 : decode cX8_init 109 = .ok (.putfield 68, 3) := by decide +kernel
theorem dX8_init_112 : decode cX8_init 112 = .ok (.aload_n 0, 1) := by decide +kernel
theorem dX8_init_113 : decode cX8_init 113 = .ok (.iconst (-1), 1) := by decide +kernel
theorem dX8_init_114 : decode cX8_init 114 = .ok (.putfield 71, 3) := by decide +kernel
theorem dX8_init_117 : decode cX8_init 117 = .ok (.return_, 1) := by decide +kernel
theorem dX8_addBench_0 : decode cX8_addBench 0 = .ok (.aload_n 0, 1) := by decide +kernel
theorem dX8_addBench_1 : decode cX8_addBench 1 = .ok (.invokevirtual 74, 3) := by decide +kernel
theorem dX8_addBench_4 : decode cX8_addBench 4 = .ok (.aload_n 0, 1) := by decide +kernel
theorem dX8_addBench_5 : decode cX8_addBench 5 = .ok (.getfield 16, 3) := by decide +kernel
theorem dX8_addBench_8 : decode cX8_addBench 8 = .ok (.getfield 77, 3) := by decide +kernel
theorem dX8_addBench_11 : decode cX8_addBench 11 = .ok (.iload_n 1, 1) := by decide +kernel
theorem dX8_addBench_12 : decode cX8_addBench 12 = .ok (.iload_n 2, 1) := by decide +kernel
theorem dX8_addBench_13 : decode cX8_addBench 13 = .ok (.iload_n 3, 1) := by decide +kernel
theorem dX8_addBench_14 : decode cX8_addBench 14 = .ok (.aload_n 0, 1) := by decide +kernel
theorem dX8_addBench_15 : decode cX8_addBench 15 = .ok (.getfield 36, 3) := by decide +kernel
theorem dX8_addBench_18 : decode cX8_addBench 18 = .ok (.invokevirtual 81, 3) := by decide +kernel
theorem dX8_addBench_21 : decode cX8_addBench 21 = .ok (.aload_n 0, 1) := by decide +kernel
theorem dX8_addBench_22 : decode cX8_addBench 22 = .ok (.invokevirtual 87, 3) := by decide +kernel
theorem dX8_addBench_25 : decode cX8_addBench 25 = .ok (.ireturn, 1) := by decide +kernel
theorem dX8_setRent_0 : decode cX8_setRent 0 = .ok (.aload_n 0, 1) := by decide +kernel
theorem dX8_setRent_1 : decode cX8_setRent 1 = .ok (.invokevirtual 74, 3) := by decide +kernel
theorem dX8_setRent_4 : decode cX8_setRent 4 = .ok (.aload_n 0, 1) := by decide +kernel
theorem dX8_setRent_5 : decode cX8_setRent 5 = .ok (.getfield 16, 3) := by decide +kernel
theorem dX8_setRent_8 : decode cX8_setRent 8 = .ok (.getfield 77, 3) := by decide +kernel
theorem dX8_setRent_11 : decode cX8_setRent 11 = .ok (.iload_n 1, 1) := by decide +kernel
theorem dX8_setRent_12 : decode cX8_setRent 12 = .ok (.iload_n 2, 1) := by decide +kernel
theorem dX8_setRent_13 : decode cX8_setRent 13 = .ok (.aload_n 0, 1) := by decide +kernel
theorem dX8_setRent_14 : decode cX8_setRent 14 = .ok (.getfield 36, 3) := by decide +kernel
theorem dX8_setRent_17 : decode cX8_setRent 17 = .ok (.invokevirtual 91, 3) := by decide +kernel
theorem dX8_setRent_20 : decode cX8_setRent 20 = .ok (.aload_n 0, 1) := by decide +kernel
theorem dX8_setRent_21 : decode cX8_setRent 21 = .ok (.invokevirtual 87, 3) := by decide +kernel
theorem dX8_setRent_24 : decode cX8_setRent 24 = .ok (.ireturn, 1) := by decide +kernel
theorem dX8_addFountain_0 : decode cX8_addFountain 0 = .ok (.aload_n 0, 1) := by decide +kernel
theorem dX8_addFountain_1 : decode cX8_addFountain 1 = .ok (.invokevirtual 74, 3) := by decide +kernel
theorem dX8_addFountain_4 : decode cX8_addFountain 4 = .ok (.aload_n 0, 1) := by decide +kernel
theorem dX8_addFountain_5 : decode cX8_addFountain 5 = .ok (.getfield 16, 3) := by decide +kernel
theorem dX8_addFountain_8 : decode cX8_addFountain 8 = .ok (.getfield 77, 3) := by decide +kernel
theorem dX8_addFountain_11 : decode cX8_addFountain 11 = .ok (.iload_n 1, 1) := by decide +kernel
theorem dX8_addFountain_12 : decode cX8_addFountain 12 = .ok (.iload_n 2, 1) := by decide +kernel
theorem dX8_addFountain_13 : decode cX8_addFountain 13 = .ok (.iload_n 3, 1) := by decide +kernel
theorem dX8_addFountain_14 : decode cX8_addFountain 14 = .ok (.aload_n 0, 1) := by decide +kernel
theorem dX8_addFountain_15 : decode cX8_addFountain 15 = .ok (.getfield 36, 3) := by decide +kernel
theorem dX8_addFountain_18 : decode cX8_addFountain 18 = .ok (.invokevirtual 95, 3) := by decide +kernel
theorem dX8_addFountain_21 : decode cX8_addFountain 21 = .ok (.aload_n 0, 1) := by decide +kernel
theorem dX8_addFountain_22 : decode cX8_addFountain 22 = .ok (.invokevirtual 87, 3) := by decide +kernel
theorem dX8_addFountain_25 : decode cX8_addFountain 25 = .ok (.ireturn, 1) := by decide +kernel
theorem dX8_setLoudness_0 : decode cX8_setLoudness 0 = .ok (.aload_n 0, 1) := by decide +kernel
theorem dX8_setLoudness_1 : decode cX8_setLoudness 1 = .ok (.invokevirtual 74, 3) := by decide +kernel
theorem dX8_setLoudness_4 : decode cX8_setLoudness 4 = .ok (.aload_n 0, 1) := by decide +kernel
theorem dX8_setLoudness_5 : decode cX8_setLoudness 5 = .ok (.getfield 16, 3) := by decide +kernel
theorem dX8_setLoudness_8 : decode cX8_setLoudness 8 = .ok (.getfield 77, 3) := by decide +kernel
theorem dX8_setLoudness_11 : decode cX8_setLoudness 11 = .ok (.iload_n 1, 1) := by decide +kernel
theorem dX8_setLoudness_12 : decode cX8_setLoudness 12 = .ok (.iload_n 2, 1) := by decide +kernel
theorem dX8_setLoudness_13 : decode cX8_setLoudness 13 = .ok (.aload_n 0, 1) := by decide +kernel
theorem dX8_setLoudness_14 : decode cX8_setLoudness 14 = .ok (.getfield 36, 3) := by decide +kernel
theorem dX8_setLoudness_17 : decode cX8_setLoudness 17 = .ok (.invokevirtual 98, 3) := by decide +kernel
theorem dX8_setLoudness_20 : decode cX8_setLoudness 20 = .ok (.aload_n 0, 1) := by decide +kernel
theorem dX8_setLoudness_21 : decode cX8_setLoudness 21 = .ok (.invokevirtual 87, 3) := by decide +kernel
theorem dX8_setLoudness_24 : decode cX8_setLoudness 24 = .ok (.ireturn, 1) := by decide +kernel
theorem dX8_switchFountain_0 : decode cX8_switchFountain 0 = .ok (.aload_n 0, 1) := by decide +kernel
theorem dX8_switchFountain_1 : decode cX8_switchFountain 1 = .ok (.invokevirtual 74, 3) := by decide +kernel
theorem dX8_switchFountain_4 : decode cX8_switchFountain 4 = .ok (.aload_n 0, 1) := by decide +kernel
theorem dX8_switchFountain_5 : decode cX8_switchFountain 5 = .ok (.getfield 16, 3) := by decide +kernel
theorem dX8_switchFountain_8 : decode cX8_switchFountain 8 = .ok (.getfield 77, 3) := by decide +kernel
theorem dX8_switchFountain_11 : decode cX8_switchFountain 11 = .ok (.iload_n 1, 1) := by decide +kernel
theorem dX8_switchFountain_12 : decode cX8_switchFountain 12 = .ok (.aload_n 0, 1) := by decide +kernel
theorem dX8_switchFountain_13 : decode cX8_switchFountain 13 = .ok (.getfield 36, 3) := by decide +kernel
theorem dX8_switchFountain_16 : decode cX8_switchFountain 16 = .ok (.invokevirtual 101, 3) := by decide +kernel
theorem dX8_switchFountain_19 : decode cX8_switchFountain 19 = .ok (.aload_n 0, 1) := by decide +kernel
theorem dX8_switchFountain_20 : decode cX8_switchFountain 20 = .ok (.invokevirtual 87, 3) := by decide +kernel
theorem dX8_switchFountain_23 : decode cX8_switchFountain 23 = .ok (.iconst 1, 1) := by decide +kernel
theorem dX8_switchFountain_24 : decode cX8_switchFountain 24 = .ok (.if_icmp .ne 7, 3) := by decide +kernel
theorem dX8_switchFountain_27 : decode cX8_switchFountain 27 = .ok (.iconst 1, 1) := by decide +kernel
theorem dX8_switchFountain_28 : decode cX8_switchFountain 28 = .ok (.goto 4, 3) := by decide +kernel
theorem dX8_switchFountain_31 : decode cX8_switchFountain 31 = .ok (.iconst 0, 1) := by decide +kernel
theorem dX8_switchFountain_32 : decode cX8_switchFountain 32 = .ok (.ireturn, 1) := by decide +kernel
theorem dX8_setNoiseLimit_0 : decode cX8_setNoiseLimit 0 = .ok (.aload_n 0, 1) := by decide +kernel
theorem dX8_setNoiseLimit_1 : decode cX8_setNoiseLimit 1 = .ok (.invokevirtual 74, 3) := by decide +kernel
theorem dX8_setNoiseLimit_4 : decode cX8_setNoiseLimit 4 = .ok (.aload_n 0, 1) := by decide +kernel
theorem dX8_setNoiseLimit_5 : decode cX8_setNoiseLimit 5 = .ok (.getfield 16, 3) := by decide +kernel
theorem dX8_setNoiseLimit_8 : decode cX8_setNoiseLimit 8 = .ok (.getfield 77, 3) := by decide +kernel
theorem dX8_setNoiseLimit_11 : decode cX8_setNoiseLimit 11 = .ok (.iload_n 1, 1) := by decide +kernel
theorem dX8_setNoiseLimit_12 : decode cX8_setNoiseLimit 12 = .ok (.aload_n 0, 1) := by decide +kernel
theorem dX8_setNoiseLimit_13 : decode cX8_setNoiseLimit 13 = .ok (.getfield 36, 3) := by decide +kernel
theorem dX8_setNoiseLimit_16 : decode cX8_setNoiseLimit 16 = .ok (.invokevirtual 105, 3) := by decide +kernel
theorem dX8_setNoiseLimit_19 : decode cX8_setNoiseLimit 19 = .ok (.aload_n 0, 1) := by decide +kernel
theorem dX8_setNoiseLimit_20 : decode cX8_setNoiseLimit 20 = .ok (.invokevirtual 87, 3) := by decide +kernel
theorem dX8_setNoiseLimit_23 : decode cX8_setNoiseLimit 23 = .ok (.ireturn, 1) := by decide +kernel
theorem dX8_benchCount_0 : decode cX8_benchCount 0 = .ok (.aload_n 0, 1) := by decide +kernel
theorem dX8_benchCount_1 : decode cX8_benchCount 1 = .ok (.getfield 10, 3) := by decide +kernel
theorem dX8_benchCount_4 : decode cX8_benchCount 4 = .ok (.getfield 77, 3) := by decide +kernel
theorem dX8_benchCount_7 : decode cX8_benchCount 7 = .ok (.getfield 108, 3) := by decide +kernel
theorem dX8_benchCount_10 : decode cX8_benchCount 10 = .ok (.ireturn, 1) := by decide +kernel
theorem dX8_rowOf_0 : decode cX8_rowOf 0 = .ok (.aload_n 0, 1) := by decide +kernel
theorem dX8_rowOf_1 : decode cX8_rowOf 1 = .ok (.iload_n 1, 1) := by decide +kernel
theorem dX8_rowOf_2 : decode cX8_rowOf 2 = .ok (.invokevirtual 111, 3) := by decide +kernel
theorem dX8_rowOf_5 : decode cX8_rowOf 5 = .ok (.aload_n 0, 1) := by decide +kernel
theorem dX8_rowOf_6 : decode cX8_rowOf 6 = .ok (.getfield 10, 3) := by decide +kernel
theorem dX8_rowOf_9 : decode cX8_rowOf 9 = .ok (.getfield 77, 3) := by decide +kernel
theorem dX8_rowOf_12 : decode cX8_rowOf 12 = .ok (.getfield 115, 3) := by decide +kernel
theorem dX8_rowOf_15 : decode cX8_rowOf 15 = .ok (.iload_n 1, 1) := by decide +kernel
theorem dX8_rowOf_16 : decode cX8_rowOf 16 = .ok (.iaload, 1) := by decide +kernel
theorem dX8_rowOf_17 : decode cX8_rowOf 17 = .ok (.ireturn, 1) := by decide +kernel
theorem dX8_columnOf_0 : decode cX8_columnOf 0 = .ok (.aload_n 0, 1) := by decide +kernel
theorem dX8_columnOf_1 : decode cX8_columnOf 1 = .ok (.iload_n 1, 1) := by decide +kernel
theorem dX8_columnOf_2 : decode cX8_columnOf 2 = .ok (.invokevirtual 111, 3) := by decide +kernel
theorem dX8_columnOf_5 : decode cX8_columnOf 5 = .ok (.aload_n 0, 1) := by decide +kernel
theorem dX8_columnOf_6 : decode cX8_columnOf 6 = .ok (.getfield 10, 3) := by decide +kernel
theorem dX8_columnOf_9 : decode cX8_columnOf 9 = .ok (.getfield 77, 3) := by decide +kernel
theorem dX8_columnOf_12 : decode cX8_columnOf 12 = .ok (.getfield 119, 3) := by decide +kernel
theorem dX8_columnOf_15 : decode cX8_columnOf 15 = .ok (.iload_n 1, 1) := by decide +kernel
theorem dX8_columnOf_16 : decode cX8_columnOf 16 = .ok (.iaload, 1) := by decide +kernel
theorem dX8_columnOf_17 : decode cX8_columnOf 17 = .ok (.ireturn, 1) := by decide +kernel
theorem dX8_baseRent_0 : decode cX8_baseRent 0 = .ok (.aload_n 0, 1) := by decide +kernel
theorem dX8_baseRent_1 : decode cX8_baseRent 1 = .ok (.iload_n 1, 1) := by decide +kernel
theorem dX8_baseRent_2 : decode cX8_baseRent 2 = .ok (.invokevirtual 111, 3) := by decide +kernel
theorem dX8_baseRent_5 : decode cX8_baseRent 5 = .ok (.aload_n 0, 1) := by decide +kernel
theorem dX8_baseRent_6 : decode cX8_baseRent 6 = .ok (.getfield 10, 3) := by decide +kernel
theorem dX8_baseRent_9 : decode cX8_baseRent 9 = .ok (.getfield 77, 3) := by decide +kernel
theorem dX8_baseRent_12 : decode cX8_baseRent 12 = .ok (.getfield 122, 3) := by decide +kernel
theorem dX8_baseRent_15 : decode cX8_baseRent 15 = .ok (.iload_n 1, 1) := by decide +kernel
theorem dX8_baseRent_16 : decode cX8_baseRent 16 = .ok (.iaload, 1) := by decide +kernel
theorem dX8_baseRent_17 : decode cX8_baseRent 17 = .ok (.ireturn, 1) := by decide +kernel
theorem dX8_rentOf_0 : decode cX8_rentOf 0 = .ok (.aload_n 0, 1) := by decide +kernel
theorem dX8_rentOf_1 : decode cX8_rentOf 1 = .ok (.iload_n 1, 1) := by decide +kernel
theorem dX8_rentOf_2 : decode cX8_rentOf 2 = .ok (.invokevirtual 111, 3) := by decide +kernel
theorem dX8_rentOf_5 : decode cX8_rentOf 5 = .ok (.aload_n 0, 1) := by decide +kernel
theorem dX8_rentOf_6 : decode cX8_rentOf 6 = .ok (.getfield 10, 3) := by decide +kernel
theorem dX8_rentOf_9 : decode cX8_rentOf 9 = .ok (.getfield 77, 3) := by decide +kernel
theorem dX8_rentOf_12 : decode cX8_rentOf 12 = .ok (.iload_n 1, 1) := by decide +kernel
theorem dX8_rentOf_13 : decode cX8_rentOf 13 = .ok (.invokevirtual 125, 3) := by decide +kernel
theorem dX8_rentOf_16 : decode cX8_rentOf 16 = .ok (.ireturn, 1) := by decide +kernel
theorem dX8_fountainCount_0 : decode cX8_fountainCount 0 = .ok (.aload_n 0, 1) := by decide +kernel
theorem dX8_fountainCount_1 : decode cX8_fountainCount 1 = .ok (.getfield 10, 3) := by decide +kernel
theorem dX8_fountainCount_4 : decode cX8_fountainCount 4 = .ok (.getfield 77, 3) := by decide +kernel
theorem dX8_fountainCount_7 : decode cX8_fountainCount 7 = .ok (.getfield 129, 3) := by decide +kernel
theorem dX8_fountainCount_10 : decode cX8_fountainCount 10 = .ok (.ireturn, 1) := by decide +kernel
theorem dX8_loudnessOf_0 : decode cX8_loudnessOf 0 = .ok (.aload_n 0, 1) := by decide +kernel
theorem dX8_loudnessOf_1 : decode cX8_loudnessOf 1 = .ok (.iload_n 1, 1) := by decide +kernel
theorem dX8_loudnessOf_2 : decode cX8_loudnessOf 2 = .ok (.invokevirtual 132, 3) := by decide +kernel
theorem dX8_loudnessOf_5 : decode cX8_loudnessOf 5 = .ok (.aload_n 0, 1) := by decide +kernel
theorem dX8_loudnessOf_6 : decode cX8_loudnessOf 6 = .ok (.getfield 10, 3) := by decide +kernel
theorem dX8_loudnessOf_9 : decode cX8_loudnessOf 9 = .ok (.getfield 77, 3) := by decide +kernel
theorem dX8_loudnessOf_12 : decode cX8_loudnessOf 12 = .ok (.getfield 135, 3) := by decide +kernel
theorem dX8_loudnessOf_15 : decode cX8_loudnessOf 15 = .ok (.iload_n 1, 1) := by decide +kernel
theorem dX8_loudnessOf_16 : decode cX8_loudnessOf 16 = .ok (.iaload, 1) := by decide +kernel
theorem dX8_loudnessOf_17 : decode cX8_loudnessOf 17 = .ok (.ireturn, 1) := by decide +kernel
theorem dX8_isRunning_0 : decode cX8_isRunning 0 = .ok (.aload_n 0, 1) := by decide +kernel
theorem dX8_isRunning_1 : decode cX8_isRunning 1 = .ok (.iload_n 1, 1) := by decide +kernel
theorem dX8_isRunning_2 : decode cX8_isRunning 2 = .ok (.invokevirtual 132, 3) := by decide +kernel
theorem dX8_isRunning_5 : decode cX8_isRunning 5 = .ok (.aload_n 0, 1) := by decide +kernel
theorem dX8_isRunning_6 : decode cX8_isRunning 6 = .ok (.getfield 10, 3) := by decide +kernel
theorem dX8_isRunning_9 : decode cX8_isRunning 9 = .ok (.getfield 77, 3) := by decide +kernel
theorem dX8_isRunning_12 : decode cX8_isRunning 12 = .ok (.getfield 138, 3) := by decide +kernel
theorem dX8_isRunning_15 : decode cX8_isRunning 15 = .ok (.iload_n 1, 1) := by decide +kernel
theorem dX8_isRunning_16 : decode cX8_isRunning 16 = .ok (.baload, 1) := by decide +kernel
theorem dX8_isRunning_17 : decode cX8_isRunning 17 = .ok (.ireturn, 1) := by decide +kernel
theorem dX8_noiseLimit_0 : decode cX8_noiseLimit 0 = .ok (.aload_n 0, 1) := by decide +kernel
theorem dX8_noiseLimit_1 : decode cX8_noiseLimit 1 = .ok (.getfield 10, 3) := by decide +kernel
theorem dX8_noiseLimit_4 : decode cX8_noiseLimit 4 = .ok (.getfield 77, 3) := by decide +kernel
theorem dX8_noiseLimit_7 : decode cX8_noiseLimit 7 = .ok (.getfield 142, 3) := by decide +kernel
theorem dX8_noiseLimit_10 : decode cX8_noiseLimit 10 = .ok (.ireturn, 1) := by decide +kernel
theorem dX8_noiseAt_0 : decode cX8_noiseAt 0 = .ok (.aload_n 0, 1) := by decide +kernel
theorem dX8_noiseAt_1 : decode cX8_noiseAt 1 = .ok (.iload_n 1, 1) := by decide +kernel
theorem dX8_noiseAt_2 : decode cX8_noiseAt 2 = .ok (.iload_n 2, 1) := by decide +kernel
theorem dX8_noiseAt_3 : decode cX8_noiseAt 3 = .ok (.invokevirtual 145, 3) := by decide +kernel
theorem dX8_noiseAt_6 : decode cX8_noiseAt 6 = .ok (.aload_n 0, 1) := by decide +kernel
theorem dX8_noiseAt_7 : decode cX8_noiseAt 7 = .ok (.getfield 10, 3) := by decide +kernel
theorem dX8_noiseAt_10 : decode cX8_noiseAt 10 = .ok (.getfield 77, 3) := by decide +kernel
theorem dX8_noiseAt_13 : decode cX8_noiseAt 13 = .ok (.iload_n 1, 1) := by decide +kernel
theorem dX8_noiseAt_14 : decode cX8_noiseAt 14 = .ok (.iload_n 2, 1) := by decide +kernel
theorem dX8_noiseAt_15 : decode cX8_noiseAt 15 = .ok (.invokevirtual 149, 3) := by decide +kernel
theorem dX8_noiseAt_18 : decode cX8_noiseAt 18 = .ok (.ireturn, 1) := by decide +kernel
theorem dX8_noiseBySpreading_0 : decode cX8_noiseBySpreading 0 = .ok (.aload_n 0, 1) := by decide +kernel
theorem dX8_noiseBySpreading_1 : decode cX8_noiseBySpreading 1 = .ok (.iload_n 1, 1) := by decide +kernel
theorem dX8_noiseBySpreading_2 : decode cX8_noiseBySpreading 2 = .ok (.iload_n 2, 1) := by decide +kernel
theorem dX8_noiseBySpreading_3 : decode cX8_noiseBySpreading 3 = .ok (.invokevirtual 145, 3) := by decide +kernel
theorem dX8_noiseBySpreading_6 : decode cX8_noiseBySpreading 6 = .ok (.aload_n 0, 1) := by decide +kernel
theorem dX8_noiseBySpreading_7 : decode cX8_noiseBySpreading 7 = .ok (.getfield 43, 3) := by decide +kernel
theorem dX8_noiseBySpreading_10 : decode cX8_noiseBySpreading 10 = .ok (.aload_n 0, 1) := by decide +kernel
theorem dX8_noiseBySpreading_11 : decode cX8_noiseBySpreading 11 = .ok (.getfield 10, 3) := by decide +kernel
theorem dX8_noiseBySpreading_14 : decode cX8_noiseBySpreading 14 = .ok (.getfield 77, 3) := by decide +kernel
theorem dX8_noiseBySpreading_17 : decode cX8_noiseBySpreading 17 = .ok (.invokevirtual 153, 3) := by decide +kernel
theorem dX8_noiseBySpreading_20 : decode cX8_noiseBySpreading 20 = .ok (.aload_n 0, 1) := by decide +kernel
theorem dX8_noiseBySpreading_21 : decode cX8_noiseBySpreading 21 = .ok (.getfield 43, 3) := by decide +kernel
theorem dX8_noiseBySpreading_24 : decode cX8_noiseBySpreading 24 = .ok (.getfield 157, 3) := by decide +kernel
theorem dX8_noiseBySpreading_27 : decode cX8_noiseBySpreading 27 = .ok (.iload_n 1, 1) := by decide +kernel
theorem dX8_noiseBySpreading_28 : decode cX8_noiseBySpreading 28 = .ok (.bipush 6, 2) := by decide +kernel
theorem dX8_noiseBySpreading_30 : decode cX8_noiseBySpreading 30 = .ok (.imul, 1) := by decide +kernel
theorem dX8_noiseBySpreading_31 : decode cX8_noiseBySpreading 31 = .ok (.iload_n 2, 1) := by decide +kernel
theorem dX8_noiseBySpreading_32 : decode cX8_noiseBySpreading 32 = .ok (.iadd, 1) := by decide +kernel
theorem dX8_noiseBySpreading_33 : decode cX8_noiseBySpreading 33 = .ok (.iaload, 1) := by decide +kernel
theorem dX8_noiseBySpreading_34 : decode cX8_noiseBySpreading 34 = .ok (.ireturn, 1) := by decide +kernel
theorem dX8_isQuiet_0 : decode cX8_isQuiet 0 = .ok (.aload_n 0, 1) := by decide +kernel
theorem dX8_isQuiet_1 : decode cX8_isQuiet 1 = .ok (.iload_n 1, 1) := by decide +kernel
theorem dX8_isQuiet_2 : decode cX8_isQuiet 2 = .ok (.invokevirtual 111, 3) := by decide +kernel
theorem dX8_isQuiet_5 : decode cX8_isQuiet 5 = .ok (.aload_n 0, 1) := by decide +kernel
theorem dX8_isQuiet_6 : decode cX8_isQuiet 6 = .ok (.getfield 10, 3) := by decide +kernel
theorem dX8_isQuiet_9 : decode cX8_isQuiet 9 = .ok (.getfield 77, 3) := by decide +kernel
theorem dX8_isQuiet_12 : decode cX8_isQuiet 12 = .ok (.iload_n 1, 1) := by decide +kernel
theorem dX8_isQuiet_13 : decode cX8_isQuiet 13 = .ok (.invokevirtual 160, 3) := by decide +kernel
theorem dX8_isQuiet_16 : decode cX8_isQuiet 16 = .ok (.ireturn, 1) := by decide +kernel
theorem dX8_quietCount_0 : decode cX8_quietCount 0 = .ok (.iconst 0, 1) := by decide +kernel
theorem dX8_quietCount_1 : decode cX8_quietCount 1 = .ok (.istore_n 1, 1) := by decide +kernel
theorem dX8_quietCount_2 : decode cX8_quietCount 2 = .ok (.iconst 0, 1) := by decide +kernel
theorem dX8_quietCount_3 : decode cX8_quietCount 3 = .ok (.istore_n 2, 1) := by decide +kernel
theorem dX8_quietCount_4 : decode cX8_quietCount 4 = .ok (.iload_n 2, 1) := by decide +kernel
theorem dX8_quietCount_5 : decode cX8_quietCount 5 = .ok (.aload_n 0, 1) := by decide +kernel
theorem dX8_quietCount_6 : decode cX8_quietCount 6 = .ok (.getfield 10, 3) := by decide +kernel
theorem dX8_quietCount_9 : decode cX8_quietCount 9 = .ok (.getfield 77, 3) := by decide +kernel
theorem dX8_quietCount_12 : decode cX8_quietCount 12 = .ok (.getfield 108, 3) := by decide +kernel
theorem dX8_quietCount_15 : decode cX8_quietCount 15 = .ok (.if_icmp .ge 26, 3) := by decide +kernel
theorem dX8_quietCount_18 : decode cX8_quietCount 18 = .ok (.aload_n 0, 1) := by decide +kernel
theorem dX8_quietCount_19 : decode cX8_quietCount 19 = .ok (.getfield 10, 3) := by decide +kernel
theorem dX8_quietCount_22 : decode cX8_quietCount 22 = .ok (.getfield 77, 3) := by decide +kernel
theorem dX8_quietCount_25 : decode cX8_quietCount 25 = .ok (.iload_n 2, 1) := by decide +kernel
theorem dX8_quietCount_26 : decode cX8_quietCount 26 = .ok (.invokevirtual 160, 3) := by decide +kernel
theorem dX8_quietCount_29 : decode cX8_quietCount 29 = .ok (.ifCond .eq 6, 3) := by decide +kernel
theorem dX8_quietCount_32 : decode cX8_quietCount 32 = .ok (.iinc 1 1, 3) := by decide +kernel
theorem dX8_quietCount_35 : decode cX8_quietCount 35 = .ok (.iinc 2 1, 3) := by decide +kernel
theorem dX8_quietCount_38 : decode cX8_quietCount 38 = .ok (.goto (-34), 3) := by decide +kernel
theorem dX8_quietCount_41 : decode cX8_quietCount 41 = .ok (.iload_n 1, 1) := by decide +kernel
theorem dX8_quietCount_42 : decode cX8_quietCount 42 = .ok (.ireturn, 1) := by decide +kernel
theorem dX8_addTenant_0 : decode cX8_addTenant 0 = .ok (.aload_n 0, 1) := by decide +kernel
theorem dX8_addTenant_1 : decode cX8_addTenant 1 = .ok (.invokevirtual 74, 3) := by decide +kernel
theorem dX8_addTenant_4 : decode cX8_addTenant 4 = .ok (.aload_n 0, 1) := by decide +kernel
theorem dX8_addTenant_5 : decode cX8_addTenant 5 = .ok (.getfield 16, 3) := by decide +kernel
theorem dX8_addTenant_8 : decode cX8_addTenant 8 = .ok (.iload_n 1, 1) := by decide +kernel
theorem dX8_addTenant_9 : decode cX8_addTenant 9 = .ok (.aload_n 0, 1) := by decide +kernel
theorem dX8_addTenant_10 : decode cX8_addTenant 10 = .ok (.getfield 36, 3) := by decide +kernel
theorem dX8_addTenant_13 : decode cX8_addTenant 13 = .ok (.invokevirtual 164, 3) := by decide +kernel
theorem dX8_addTenant_16 : decode cX8_addTenant 16 = .ok (.aload_n 0, 1) := by decide +kernel
theorem dX8_addTenant_17 : decode cX8_addTenant 17 = .ok (.invokevirtual 87, 3) := by decide +kernel
theorem dX8_addTenant_20 : decode cX8_addTenant 20 = .ok (.ireturn, 1) := by decide +kernel
theorem dX8_giveCoins_0 : decode cX8_giveCoins 0 = .ok (.aload_n 0, 1) := by decide +kernel
theorem dX8_giveCoins_1 : decode cX8_giveCoins 1 = .ok (.invokevirtual 74, 3) := by decide +kernel
theorem dX8_giveCoins_4 : decode cX8_giveCoins 4 = .ok (.aload_n 0, 1) := by decide +kernel
theorem dX8_giveCoins_5 : decode cX8_giveCoins 5 = .ok (.getfield 16, 3) := by decide +kernel
theorem dX8_giveCoins_8 : decode cX8_giveCoins 8 = .ok (.iload_n 1, 1) := by decide +kernel
theorem dX8_giveCoins_9 : decode cX8_giveCoins 9 = .ok (.iload_n 2, 1) := by decide +kernel
theorem dX8_giveCoins_10 : decode cX8_giveCoins 10 = .ok (.aload_n 0, 1) := by decide +kernel
theorem dX8_giveCoins_11 : decode cX8_giveCoins 11 = .ok (.getfield 36, 3) := by decide +kernel
theorem dX8_giveCoins_14 : decode cX8_giveCoins 14 = .ok (.invokevirtual 167, 3) := by decide +kernel
theorem dX8_giveCoins_17 : decode cX8_giveCoins 17 = .ok (.aload_n 0, 1) := by decide +kernel
theorem dX8_giveCoins_18 : decode cX8_giveCoins 18 = .ok (.invokevirtual 87, 3) := by decide +kernel
theorem dX8_giveCoins_21 : decode cX8_giveCoins 21 = .ok (.ireturn, 1) := by decide +kernel
theorem dX8_tenantCount_0 : decode cX8_tenantCount 0 = .ok (.aload_n 0, 1) := by decide +kernel
theorem dX8_tenantCount_1 : decode cX8_tenantCount 1 = .ok (.getfield 10, 3) := by decide +kernel
theorem dX8_tenantCount_4 : decode cX8_tenantCount 4 = .ok (.getfield 170, 3) := by decide +kernel
theorem dX8_tenantCount_7 : decode cX8_tenantCount 7 = .ok (.ireturn, 1) := by decide +kernel
theorem dX8_coinsOf_0 : decode cX8_coinsOf 0 = .ok (.aload_n 0, 1) := by decide +kernel
theorem dX8_coinsOf_1 : decode cX8_coinsOf 1 = .ok (.iload_n 1, 1) := by decide +kernel
theorem dX8_coinsOf_2 : decode cX8_coinsOf 2 = .ok (.invokevirtual 173, 3) := by decide +kernel
theorem dX8_coinsOf_5 : decode cX8_coinsOf 5 = .ok (.aload_n 0, 1) := by decide +kernel
theorem dX8_coinsOf_6 : decode cX8_coinsOf 6 = .ok (.getfield 10, 3) := by decide +kernel
theorem dX8_coinsOf_9 : decode cX8_coinsOf 9 = .ok (.getfield 176, 3) := by decide +kernel
theorem dX8_coinsOf_12 : decode cX8_coinsOf 12 = .ok (.iload_n 1, 1) := by decide +kernel
theorem dX8_coinsOf_13 : decode cX8_coinsOf 13 = .ok (.iaload, 1) := by decide +kernel
theorem dX8_coinsOf_14 : decode cX8_coinsOf 14 = .ok (.ireturn, 1) := by decide +kernel
theorem dX8_defaultsOf_0 : decode cX8_defaultsOf 0 = .ok (.aload_n 0, 1) := by decide +kernel
theorem dX8_defaultsOf_1 : decode cX8_defaultsOf 1 = .ok (.iload_n 1, 1) := by decide +kernel
theorem dX8_defaultsOf_2 : decode cX8_defaultsOf 2 = .ok (.invokevirtual 173, 3) := by decide +kernel
theorem dX8_defaultsOf_5 : decode cX8_defaultsOf 5 = .ok (.aload_n 0, 1) := by decide +kernel
theorem dX8_defaultsOf_6 : decode cX8_defaultsOf 6 = .ok (.getfield 10, 3) := by decide +kernel
theorem dX8_defaultsOf_9 : decode cX8_defaultsOf 9 = .ok (.getfield 179, 3) := by decide +kernel
theorem dX8_defaultsOf_12 : decode cX8_defaultsOf 12 = .ok (.iload_n 1, 1) := by decide +kernel
theorem dX8_defaultsOf_13 : decode cX8_defaultsOf 13 = .ok (.iaload, 1) := by decide +kernel
theorem dX8_defaultsOf_14 : decode cX8_defaultsOf 14 = .ok (.ireturn, 1) := by decide +kernel
theorem dX8_benchOf_0 : decode cX8_benchOf 0 = .ok (.aload_n 0, 1) := by decide +kernel
theorem dX8_benchOf_1 : decode cX8_benchOf 1 = .ok (.iload_n 1, 1) := by decide +kernel
theorem dX8_benchOf_2 : decode cX8_benchOf 2 = .ok (.invokevirtual 173, 3) := by decide +kernel
theorem dX8_benchOf_5 : decode cX8_benchOf 5 = .ok (.aload_n 0, 1) := by decide +kernel
theorem dX8_benchOf_6 : decode cX8_benchOf 6 = .ok (.getfield 10, 3) := by decide +kernel
theorem dX8_benchOf_9 : decode cX8_benchOf 9 = .ok (.iload_n 1, 1) := by decide +kernel
theorem dX8_benchOf_10 : decode cX8_benchOf 10 = .ok (.invokevirtual 182, 3) := by decide +kernel
theorem dX8_benchOf_13 : decode cX8_benchOf 13 = .ok (.istore_n 2, 1) := by decide +kernel
theorem dX8_benchOf_14 : decode cX8_benchOf 14 = .ok (.iload_n 2, 1) := by decide +kernel
theorem dX8_benchOf_15 : decode cX8_benchOf 15 = .ok (.iconst (-1), 1) := by decide +kernel
theorem dX8_benchOf_16 : decode cX8_benchOf 16 = .ok (.if_icmp .ne 11, 3) := by decide +kernel
theorem dX8_benchOf_19 : decode cX8_benchOf 19 = .ok (.new 185, 3) := by decide +kernel
theorem dX8_benchOf_22 : decode cX8_benchOf 22 = .ok (.dup, 1) := by decide +kernel
theorem dX8_benchOf_23 : decode cX8_benchOf 23 = .ok (.invokespecial 187, 3) := by decide +kernel
theorem dX8_benchOf_26 : decode cX8_benchOf 26 = .ok (.athrow, 1) := by decide +kernel
theorem dX8_benchOf_27 : decode cX8_benchOf 27 = .ok (.iload_n 2, 1) := by decide +kernel
theorem dX8_benchOf_28 : decode cX8_benchOf 28 = .ok (.ireturn, 1) := by decide +kernel
theorem dX8_canLease_0 : decode cX8_canLease 0 = .ok (.aload_n 0, 1) := by decide +kernel
theorem dX8_canLease_1 : decode cX8_canLease 1 = .ok (.iload_n 1, 1) := by decide +kernel
theorem dX8_canLease_2 : decode cX8_canLease 2 = .ok (.invokevirtual 173, 3) := by decide +kernel
theorem dX8_canLease_5 : decode cX8_canLease 5 = .ok (.aload_n 0, 1) := by decide +kernel
theorem dX8_canLease_6 : decode cX8_canLease 6 = .ok (.iload_n 2, 1) := by decide +kernel
theorem dX8_canLease_7 : decode cX8_canLease 7 = .ok (.invokevirtual 111, 3) := by decide +kernel
theorem dX8_canLease_10 : decode cX8_canLease 10 = .ok (.aload_n 0, 1) := by decide +kernel
theorem dX8_canLease_11 : decode cX8_canLease 11 = .ok (.getfield 10, 3) := by decide +kernel
theorem dX8_canLease_14 : decode cX8_canLease 14 = .ok (.iload_n 1, 1) := by decide +kernel
theorem dX8_canLease_15 : decode cX8_canLease 15 = .ok (.iload_n 2, 1) := by decide +kernel
theorem dX8_canLease_16 : decode cX8_canLease 16 = .ok (.invokevirtual 188, 3) := by decide +kernel
theorem dX8_canLease_19 : decode cX8_canLease 19 = .ok (.ifCond .ne 7, 3) := by decide +kernel
theorem dX8_canLease_22 : decode cX8_canLease 22 = .ok (.iconst 1, 1) := by decide +kernel
theorem dX8_canLease_23 : decode cX8_canLease 23 = .ok (.goto 4, 3) := by decide +kernel
theorem dX8_canLease_26 : decode cX8_canLease 26 = .ok (.iconst 0, 1) := by decide +kernel
theorem dX8_canLease_27 : decode cX8_canLease 27 = .ok (.ireturn, 1) := by decide +kernel
theorem dX8_cheapestFor_0 : decode cX8_cheapestFor 0 = .ok (.aload_n 0, 1) := by decide +kernel
theorem dX8_cheapestFor_1 : decode cX8_cheapestFor 1 = .ok (.iload_n 1, 1) := by decide +kernel
theorem dX8_cheapestFor_2 : decode cX8_cheapestFor 2 = .ok (.invokevirtual 173, 3) := by decide +kernel
theorem dX8_cheapestFor_5 : decode cX8_cheapestFor 5 = .ok (.aload_n 0, 1) := by decide +kernel
theorem dX8_cheapestFor_6 : decode cX8_cheapestFor 6 = .ok (.getfield 10, 3) := by decide +kernel
theorem dX8_cheapestFor_9 : decode cX8_cheapestFor 9 = .ok (.iload_n 1, 1) := by decide +kernel
theorem dX8_cheapestFor_10 : decode cX8_cheapestFor 10 = .ok (.invokevirtual 191, 3) := by decide +kernel
theorem dX8_cheapestFor_13 : decode cX8_cheapestFor 13 = .ok (.istore_n 2, 1) := by decide +kernel
theorem dX8_cheapestFor_14 : decode cX8_cheapestFor 14 = .ok (.iload_n 2, 1) := by decide +kernel
theorem dX8_cheapestFor_15 : decode cX8_cheapestFor 15 = .ok (.iconst (-1), 1) := by decide +kernel
theorem dX8_cheapestFor_16 : decode cX8_cheapestFor 16 = .ok (.if_icmp .ne 11, 3) := by decide +kernel
theorem dX8_cheapestFor_19 : decode cX8_cheapestFor 19 = .ok (.new 185, 3) := by decide +kernel
theorem dX8_cheapestFor_22 : decode cX8_cheapestFor 22 = .ok (.dup, 1) := by decide +kernel
theorem dX8_cheapestFor_23 : decode cX8_cheapestFor 23 = .ok (.invokespecial 187, 3) := by decide +kernel
theorem dX8_cheapestFor_26 : decode cX8_cheapestFor 26 = .ok (.athrow, 1) := by decide +kernel
theorem dX8_cheapestFor_27 : decode cX8_cheapestFor 27 = .ok (.iload_n 2, 1) := by decide +kernel
theorem dX8_cheapestFor_28 : decode cX8_cheapestFor 28 = .ok (.ireturn, 1) := by decide +kernel
theorem dX8_lease_0 : decode cX8_lease 0 = .ok (.aload_n 0, 1) := by decide +kernel
theorem dX8_lease_1 : decode cX8_lease 1 = .ok (.invokevirtual 74, 3) := by decide +kernel
theorem dX8_lease_4 : decode cX8_lease 4 = .ok (.aload_n 0, 1) := by decide +kernel
theorem dX8_lease_5 : decode cX8_lease 5 = .ok (.getfield 16, 3) := by decide +kernel
theorem dX8_lease_8 : decode cX8_lease 8 = .ok (.iload_n 1, 1) := by decide +kernel
theorem dX8_lease_9 : decode cX8_lease 9 = .ok (.iload_n 2, 1) := by decide +kernel
theorem dX8_lease_10 : decode cX8_lease 10 = .ok (.iload_n 3, 1) := by decide +kernel
theorem dX8_lease_11 : decode cX8_lease 11 = .ok (.aload_n 0, 1) := by decide +kernel
theorem dX8_lease_12 : decode cX8_lease 12 = .ok (.getfield 36, 3) := by decide +kernel
theorem dX8_lease_15 : decode cX8_lease 15 = .ok (.invokevirtual 194, 3) := by decide +kernel
theorem dX8_lease_18 : decode cX8_lease 18 = .ok (.aload_n 0, 1) := by decide +kernel
theorem dX8_lease_19 : decode cX8_lease 19 = .ok (.invokevirtual 87, 3) := by decide +kernel
theorem dX8_lease_22 : decode cX8_lease 22 = .ok (.ireturn, 1) := by decide +kernel
theorem dX8_endLease_0 : decode cX8_endLease 0 = .ok (.aload_n 0, 1) := by decide +kernel
theorem dX8_endLease_1 : decode cX8_endLease 1 = .ok (.invokevirtual 74, 3) := by decide +kernel
theorem dX8_endLease_4 : decode cX8_endLease 4 = .ok (.aload_n 0, 1) := by decide +kernel
theorem dX8_endLease_5 : decode cX8_endLease 5 = .ok (.getfield 16, 3) := by decide +kernel
theorem dX8_endLease_8 : decode cX8_endLease 8 = .ok (.iload_n 1, 1) := by decide +kernel
theorem dX8_endLease_9 : decode cX8_endLease 9 = .ok (.aload_n 0, 1) := by decide +kernel
theorem dX8_endLease_10 : decode cX8_endLease 10 = .ok (.getfield 36, 3) := by decide +kernel
theorem dX8_endLease_13 : decode cX8_endLease 13 = .ok (.invokevirtual 197, 3) := by decide +kernel
theorem dX8_endLease_16 : decode cX8_endLease 16 = .ok (.aload_n 0, 1) := by decide +kernel
theorem dX8_endLease_17 : decode cX8_endLease 17 = .ok (.invokevirtual 87, 3) := by decide +kernel
theorem dX8_endLease_20 : decode cX8_endLease 20 = .ok (.ireturn, 1) := by decide +kernel
theorem dX8_renew_0 : decode cX8_renew 0 = .ok (.aload_n 0, 1) := by decide +kernel
theorem dX8_renew_1 : decode cX8_renew 1 = .ok (.invokevirtual 74, 3) := by decide +kernel
theorem dX8_renew_4 : decode cX8_renew 4 = .ok (.aload_n 0, 1) := by decide +kernel
theorem dX8_renew_5 : decode cX8_renew 5 = .ok (.getfield 16, 3) := by decide +kernel
theorem dX8_renew_8 : decode cX8_renew 8 = .ok (.iload_n 1, 1) := by decide +kernel
theorem dX8_renew_9 : decode cX8_renew 9 = .ok (.iload_n 2, 1) := by decide +kernel
theorem dX8_renew_10 : decode cX8_renew 10 = .ok (.aload_n 0, 1) := by decide +kernel
theorem dX8_renew_11 : decode cX8_renew 11 = .ok (.getfield 36, 3) := by decide +kernel
theorem dX8_renew_14 : decode cX8_renew 14 = .ok (.invokevirtual 200, 3) := by decide +kernel
theorem dX8_renew_17 : decode cX8_renew 17 = .ok (.aload_n 0, 1) := by decide +kernel
theorem dX8_renew_18 : decode cX8_renew 18 = .ok (.invokevirtual 87, 3) := by decide +kernel
theorem dX8_renew_21 : decode cX8_renew 21 = .ok (.ireturn, 1) := by decide +kernel
theorem dX8_isLet_0 : decode cX8_isLet 0 = .ok (.aload_n 0, 1) := by decide +kernel
theorem dX8_isLet_1 : decode cX8_isLet 1 = .ok (.iload_n 1, 1) := by decide +kernel
theorem dX8_isLet_2 : decode cX8_isLet 2 = .ok (.invokevirtual 111, 3) := by decide +kernel
theorem dX8_isLet_5 : decode cX8_isLet 5 = .ok (.aload_n 0, 1) := by decide +kernel
theorem dX8_isLet_6 : decode cX8_isLet 6 = .ok (.getfield 10, 3) := by decide +kernel
theorem dX8_isLet_9 : decode cX8_isLet 9 = .ok (.iload_n 1, 1) := by decide +kernel
theorem dX8_isLet_10 : decode cX8_isLet 10 = .ok (.invokevirtual 203, 3) := by decide +kernel
theorem dX8_isLet_13 : decode cX8_isLet 13 = .ok (.ireturn, 1) := by decide +kernel
theorem dX8_tenantOf_0 : decode cX8_tenantOf 0 = .ok (.aload_n 0, 1) := by decide +kernel
theorem dX8_tenantOf_1 : decode cX8_tenantOf 1 = .ok (.iload_n 1, 1) := by decide +kernel
theorem dX8_tenantOf_2 : decode cX8_tenantOf 2 = .ok (.invokevirtual 206, 3) := by decide +kernel
theorem dX8_tenantOf_5 : decode cX8_tenantOf 5 = .ok (.aload_n 0, 1) := by decide +kernel
theorem dX8_tenantOf_6 : decode cX8_tenantOf 6 = .ok (.getfield 10, 3) := by decide +kernel
theorem dX8_tenantOf_9 : decode cX8_tenantOf 9 = .ok (.getfield 209, 3) := by decide +kernel
theorem dX8_tenantOf_12 : decode cX8_tenantOf 12 = .ok (.iload_n 1, 1) := by decide +kernel
theorem dX8_tenantOf_13 : decode cX8_tenantOf 13 = .ok (.iaload, 1) := by decide +kernel
theorem dX8_tenantOf_14 : decode cX8_tenantOf 14 = .ok (.ireturn, 1) := by decide +kernel
theorem dX8_depositOf_0 : decode cX8_depositOf 0 = .ok (.aload_n 0, 1) := by decide +kernel
theorem dX8_depositOf_1 : decode cX8_depositOf 1 = .ok (.iload_n 1, 1) := by decide +kernel
theorem dX8_depositOf_2 : decode cX8_depositOf 2 = .ok (.invokevirtual 206, 3) := by decide +kernel
theorem dX8_depositOf_5 : decode cX8_depositOf 5 = .ok (.aload_n 0, 1) := by decide +kernel
theorem dX8_depositOf_6 : decode cX8_depositOf 6 = .ok (.getfield 10, 3) := by decide +kernel
theorem dX8_depositOf_9 : decode cX8_depositOf 9 = .ok (.getfield 212, 3) := by decide +kernel
theorem dX8_depositOf_12 : decode cX8_depositOf 12 = .ok (.iload_n 1, 1) := by decide +kernel
theorem dX8_depositOf_13 : decode cX8_depositOf 13 = .ok (.iaload, 1) := by decide +kernel
theorem dX8_depositOf_14 : decode cX8_depositOf 14 = .ok (.ireturn, 1) := by decide +kernel
theorem dX8_monthsLeft_0 : decode cX8_monthsLeft 0 = .ok (.aload_n 0, 1) := by decide +kernel
theorem dX8_monthsLeft_1 : decode cX8_monthsLeft 1 = .ok (.iload_n 1, 1) := by decide +kernel
theorem dX8_monthsLeft_2 : decode cX8_monthsLeft 2 = .ok (.invokevirtual 206, 3) := by decide +kernel
theorem dX8_monthsLeft_5 : decode cX8_monthsLeft 5 = .ok (.aload_n 0, 1) := by decide +kernel
theorem dX8_monthsLeft_6 : decode cX8_monthsLeft 6 = .ok (.getfield 10, 3) := by decide +kernel
theorem dX8_monthsLeft_9 : decode cX8_monthsLeft 9 = .ok (.getfield 215, 3) := by decide +kernel
theorem dX8_monthsLeft_12 : decode cX8_monthsLeft 12 = .ok (.iload_n 1, 1) := by decide +kernel
theorem dX8_monthsLeft_13 : decode cX8_monthsLeft 13 = .ok (.iaload, 1) := by decide +kernel
theorem dX8_monthsLeft_14 : decode cX8_monthsLeft 14 = .ok (.ireturn, 1) := by decide +kernel
theorem dX8_defaultMonth_0 : decode cX8_defaultMonth 0 = .ok (.aload_n 0, 1) := by decide +kernel
theorem dX8_defaultMonth_1 : decode cX8_defaultMonth 1 = .ok (.iload_n 1, 1) := by decide +kernel
theorem dX8_defaultMonth_2 : decode cX8_defaultMonth 2 = .ok (.invokevirtual 206, 3) := by decide +kernel
theorem dX8_defaultMonth_5 : decode cX8_defaultMonth 5 = .ok (.aload_n 0, 1) := by decide +kernel
theorem dX8_defaultMonth_6 : decode cX8_defaultMonth 6 = .ok (.getfield 10, 3) := by decide +kernel
theorem dX8_defaultMonth_9 : decode cX8_defaultMonth 9 = .ok (.iload_n 1, 1) := by decide +kernel
theorem dX8_defaultMonth_10 : decode cX8_defaultMonth 10 = .ok (.invokevirtual 218, 3) := by decide +kernel
theorem dX8_defaultMonth_13 : decode cX8_defaultMonth 13 = .ok (.istore_n 2, 1) := by decide +kernel
theorem dX8_defaultMonth_14 : decode cX8_defaultMonth 14 = .ok (.aload_n 0, 1) := by decide +kernel
theorem dX8_defaultMonth_15 : decode cX8_defaultMonth 15 = .ok (.getfield 10, 3) := by decide +kernel
theorem dX8_defaultMonth_18 : decode cX8_defaultMonth 18 = .ok (.getfield 77, 3) := by decide +kernel
theorem dX8_defaultMonth_21 : decode cX8_defaultMonth 21 = .ok (.iload_n 1, 1) := by decide +kernel
theorem dX8_defaultMonth_22 : decode cX8_defaultMonth 22 = .ok (.invokevirtual 160, 3) := by decide +kernel
theorem dX8_defaultMonth_25 : decode cX8_defaultMonth 25 = .ok (.ifCond .eq 16, 3) := by decide +kernel
theorem dX8_defaultMonth_28 : decode cX8_defaultMonth 28 = .ok (.iload_n 2, 1) := by decide +kernel
theorem dX8_defaultMonth_29 : decode cX8_defaultMonth 29 = .ok (.aload_n 0, 1) := by decide +kernel
theorem dX8_defaultMonth_30 : decode cX8_defaultMonth 30 = .ok (.getfield 10, 3) := by decide +kernel
theorem dX8_defaultMonth_33 : decode cX8_defaultMonth 33 = .ok (.getfield 215, 3) := by decide +kernel
theorem dX8_defaultMonth_36 : decode cX8_defaultMonth 36 = .ok (.iload_n 1, 1) := by decide +kernel
theorem dX8_defaultMonth_37 : decode cX8_defaultMonth 37 = .ok (.iaload, 1) := by decide +kernel
theorem dX8_defaultMonth_38 : decode cX8_defaultMonth 38 = .ok (.if_icmp .lt 11, 3) := by decide +kernel
theorem dX8_defaultMonth_41 : decode cX8_defaultMonth 41 = .ok (.new 185, 3) := by decide +kernel
theorem dX8_defaultMonth_44 : decode cX8_defaultMonth 44 = .ok (.dup, 1) := by decide +kernel
theorem dX8_defaultMonth_45 : decode cX8_defaultMonth 45 = .ok (.invokespecial 187, 3) := by decide +kernel
theorem dX8_defaultMonth_48 : decode cX8_defaultMonth 48 = .ok (.athrow, 1) := by decide +kernel
theorem dX8_defaultMonth_49 : decode cX8_defaultMonth 49 = .ok (.iload_n 2, 1) := by decide +kernel
theorem dX8_defaultMonth_50 : decode cX8_defaultMonth 50 = .ok (.iconst 1, 1) := by decide +kernel
theorem dX8_defaultMonth_51 : decode cX8_defaultMonth 51 = .ok (.iadd, 1) := by decide +kernel
theorem dX8_defaultMonth_52 : decode cX8_defaultMonth 52 = .ok (.ireturn, 1) := by decide +kernel
theorem dX8_passMonths_0 : decode cX8_passMonths 0 = .ok (.aload_n 0, 1) := by decide +kernel
theorem dX8_passMonths_1 : decode cX8_passMonths 1 = .ok (.invokevirtual 74, 3) := by decide +kernel
theorem dX8_passMonths_4 : decode cX8_passMonths 4 = .ok (.aload_n 0, 1) := by decide +kernel
theorem dX8_passMonths_5 : decode cX8_passMonths 5 = .ok (.getfield 16, 3) := by decide +kernel
theorem dX8_passMonths_8 : decode cX8_passMonths 8 = .ok (.iload_n 1, 1) := by decide +kernel
theorem dX8_passMonths_9 : decode cX8_passMonths 9 = .ok (.aload_n 0, 1) := by decide +kernel
theorem dX8_passMonths_10 : decode cX8_passMonths 10 = .ok (.getfield 36, 3) := by decide +kernel
theorem dX8_passMonths_13 : decode cX8_passMonths 13 = .ok (.invokevirtual 221, 3) := by decide +kernel
theorem dX8_passMonths_16 : decode cX8_passMonths 16 = .ok (.aload_n 0, 1) := by decide +kernel
theorem dX8_passMonths_17 : decode cX8_passMonths 17 = .ok (.invokevirtual 87, 3) := by decide +kernel
theorem dX8_passMonths_20 : decode cX8_passMonths 20 = .ok (.ireturn, 1) := by decide +kernel
theorem dX8_month_0 : decode cX8_month 0 = .ok (.aload_n 0, 1) := by decide +kernel
theorem dX8_month_1 : decode cX8_month 1 = .ok (.getfield 10, 3) := by decide +kernel
theorem dX8_month_4 : decode cX8_month 4 = .ok (.getfield 224, 3) := by decide +kernel
theorem dX8_month_7 : decode cX8_month 7 = .ok (.ireturn, 1) := by decide +kernel
theorem dX8_incomeWithin_0 : decode cX8_incomeWithin 0 = .ok (.aload_n 0, 1) := by decide +kernel
theorem dX8_incomeWithin_1 : decode cX8_incomeWithin 1 = .ok (.iload_n 1, 1) := by decide +kernel
theorem dX8_incomeWithin_2 : decode cX8_incomeWithin 2 = .ok (.invokevirtual 227, 3) := by decide +kernel
theorem dX8_incomeWithin_5 : decode cX8_incomeWithin 5 = .ok (.aload_n 0, 1) := by decide +kernel
theorem dX8_incomeWithin_6 : decode cX8_incomeWithin 6 = .ok (.iload_n 1, 1) := by decide +kernel
theorem dX8_incomeWithin_7 : decode cX8_incomeWithin 7 = .ok (.invokevirtual 230, 3) := by decide +kernel
theorem dX8_incomeWithin_10 : decode cX8_incomeWithin 10 = .ok (.ireturn, 1) := by decide +kernel
theorem dX8_incomeByLeases_0 : decode cX8_incomeByLeases 0 = .ok (.aload_n 0, 1) := by decide +kernel
theorem dX8_incomeByLeases_1 : decode cX8_incomeByLeases 1 = .ok (.iload_n 1, 1) := by decide +kernel
theorem dX8_incomeByLeases_2 : decode cX8_incomeByLeases 2 = .ok (.invokevirtual 227, 3) := by decide +kernel
theorem dX8_incomeByLeases_5 : decode cX8_incomeByLeases 5 = .ok (.aload_n 0, 1) := by decide +kernel
theorem dX8_incomeByLeases_6 : decode cX8_incomeByLeases 6 = .ok (.getfield 10, 3) := by decide +kernel
theorem dX8_incomeByLeases_9 : decode cX8_incomeByLeases 9 = .ok (.iload_n 1, 1) := by decide +kernel
theorem dX8_incomeByLeases_10 : decode cX8_incomeByLeases 10 = .ok (.invokevirtual 233, 3) := by decide +kernel
theorem dX8_incomeByLeases_13 : decode cX8_incomeByLeases 13 = .ok (.ireturn, 1) := by decide +kernel
theorem dX8_brokerCoins_0 : decode cX8_brokerCoins 0 = .ok (.aload_n 0, 1) := by decide +kernel
theorem dX8_brokerCoins_1 : decode cX8_brokerCoins 1 = .ok (.getfield 10, 3) := by decide +kernel
theorem dX8_brokerCoins_4 : decode cX8_brokerCoins 4 = .ok (.getfield 236, 3) := by decide +kernel
theorem dX8_brokerCoins_7 : decode cX8_brokerCoins 7 = .ok (.ireturn, 1) := by decide +kernel
theorem dX8_depositTotal_0 : decode cX8_depositTotal 0 = .ok (.aload_n 0, 1) := by decide +kernel
theorem dX8_depositTotal_1 : decode cX8_depositTotal 1 = .ok (.getfield 10, 3) := by decide +kernel
theorem dX8_depositTotal_4 : decode cX8_depositTotal 4 = .ok (.invokevirtual 239, 3) := by decide +kernel
theorem dX8_depositTotal_7 : decode cX8_depositTotal 7 = .ok (.ireturn, 1) := by decide +kernel
theorem dX8_allCoins_0 : decode cX8_allCoins 0 = .ok (.aload_n 0, 1) := by decide +kernel
theorem dX8_allCoins_1 : decode cX8_allCoins 1 = .ok (.getfield 10, 3) := by decide +kernel
theorem dX8_allCoins_4 : decode cX8_allCoins 4 = .ok (.invokevirtual 242, 3) := by decide +kernel
theorem dX8_allCoins_7 : decode cX8_allCoins 7 = .ok (.ireturn, 1) := by decide +kernel
theorem dX8_allCoinsGiven_0 : decode cX8_allCoinsGiven 0 = .ok (.aload_n 0, 1) := by decide +kernel
theorem dX8_allCoinsGiven_1 : decode cX8_allCoinsGiven 1 = .ok (.getfield 10, 3) := by decide +kernel
theorem dX8_allCoinsGiven_4 : decode cX8_allCoinsGiven 4 = .ok (.getfield 245, 3) := by decide +kernel
theorem dX8_allCoinsGiven_7 : decode cX8_allCoinsGiven 7 = .ok (.ireturn, 1) := by decide +kernel
theorem dX8_defaultedLeases_0 : decode cX8_defaultedLeases 0 = .ok (.aload_n 0, 1) := by decide +kernel
theorem dX8_defaultedLeases_1 : decode cX8_defaultedLeases 1 = .ok (.getfield 10, 3) := by decide +kernel
theorem dX8_defaultedLeases_4 : decode cX8_defaultedLeases 4 = .ok (.getfield 248, 3) := by decide +kernel
theorem dX8_defaultedLeases_7 : decode cX8_defaultedLeases 7 = .ok (.ireturn, 1) := by decide +kernel
theorem dX8_terminatedLeases_0 : decode cX8_terminatedLeases 0 = .ok (.aload_n 0, 1) := by decide +kernel
theorem dX8_terminatedLeases_1 : decode cX8_terminatedLeases 1 = .ok (.getfield 10, 3) := by decide +kernel
theorem dX8_terminatedLeases_4 : decode cX8_terminatedLeases 4 = .ok (.getfield 251, 3) := by decide +kernel
theorem dX8_terminatedLeases_7 : decode cX8_terminatedLeases 7 = .ok (.ireturn, 1) := by decide +kernel
theorem dX8_completedLeases_0 : decode cX8_completedLeases 0 = .ok (.aload_n 0, 1) := by decide +kernel
theorem dX8_completedLeases_1 : decode cX8_completedLeases 1 = .ok (.getfield 10, 3) := by decide +kernel
theorem dX8_completedLeases_4 : decode cX8_completedLeases 4 = .ok (.getfield 254, 3) := by decide +kernel
theorem dX8_completedLeases_7 : decode cX8_completedLeases 7 = .ok (.ireturn, 1) := by decide +kernel
theorem dX8_benchByRent_0 : decode cX8_benchByRent 0 = .ok (.iconst 0, 1) := by decide +kernel
theorem dX8_benchByRent_1 : decode cX8_benchByRent 1 = .ok (.istore_n 2, 1) := by decide +kernel
theorem dX8_benchByRent_2 : decode cX8_benchByRent 2 = .ok (.iload_n 2, 1) := by decide +kernel
theorem dX8_benchByRent_3 : decode cX8_benchByRent 3 = .ok (.aload_n 0, 1) := by decide +kernel
theorem dX8_benchByRent_4 : decode cX8_benchByRent 4 = .ok (.getfield 10, 3) := by decide +kernel
theorem dX8_benchByRent_7 : decode cX8_benchByRent 7 = .ok (.getfield 77, 3) := by decide +kernel
theorem dX8_benchByRent_10 : decode cX8_benchByRent 10 = .ok (.getfield 108, 3) := by decide +kernel
theorem dX8_benchByRent_13 : decode cX8_benchByRent 13 = .ok (.if_icmp .ge 23, 3) := by decide +kernel
theorem dX8_benchByRent_16 : decode cX8_benchByRent 16 = .ok (.aload_n 0, 1) := by decide +kernel
theorem dX8_benchByRent_17 : decode cX8_benchByRent 17 = .ok (.getfield 10, 3) := by decide +kernel
theorem dX8_benchByRent_20 : decode cX8_benchByRent 20 = .ok (.iload_n 2, 1) := by decide +kernel
theorem dX8_benchByRent_21 : decode cX8_benchByRent 21 = .ok (.invokevirtual 257, 3) := by decide +kernel
theorem dX8_benchByRent_24 : decode cX8_benchByRent 24 = .ok (.iload_n 1, 1) := by decide +kernel
theorem dX8_benchByRent_25 : decode cX8_benchByRent 25 = .ok (.if_icmp .ne 5, 3) := by decide +kernel
theorem dX8_benchByRent_28 : decode cX8_benchByRent 28 = .ok (.iload_n 2, 1) := by decide +kernel
theorem dX8_benchByRent_29 : decode cX8_benchByRent 29 = .ok (.ireturn, 1) := by decide +kernel
theorem dX8_benchByRent_30 : decode cX8_benchByRent 30 = .ok (.iinc 2 1, 3) := by decide +kernel
theorem dX8_benchByRent_33 : decode cX8_benchByRent 33 = .ok (.goto (-31), 3) := by decide +kernel
theorem dX8_benchByRent_36 : decode cX8_benchByRent 36 = .ok (.new 185, 3) := by decide +kernel
theorem dX8_benchByRent_39 : decode cX8_benchByRent 39 = .ok (.dup, 1) := by decide +kernel
theorem dX8_benchByRent_40 : decode cX8_benchByRent 40 = .ok (.invokespecial 187, 3) := by decide +kernel
theorem dX8_benchByRent_43 : decode cX8_benchByRent 43 = .ok (.athrow, 1) := by decide +kernel
theorem dX8_tenantByCoins_0 : decode cX8_tenantByCoins 0 = .ok (.iconst 0, 1) := by decide +kernel
theorem dX8_tenantByCoins_1 : decode cX8_tenantByCoins 1 = .ok (.istore_n 2, 1) := by decide +kernel
theorem dX8_tenantByCoins_2 : decode cX8_tenantByCoins 2 = .ok (.iload_n 2, 1) := by decide +kernel
theorem dX8_tenantByCoins_3 : decode cX8_tenantByCoins 3 = .ok (.aload_n 0, 1) := by decide +kernel
theorem dX8_tenantByCoins_4 : decode cX8_tenantByCoins 4 = .ok (.getfield 10, 3) := by decide +kernel
theorem dX8_tenantByCoins_7 : decode cX8_tenantByCoins 7 = .ok (.getfield 170, 3) := by decide +kernel
theorem dX8_tenantByCoins_10 : decode cX8_tenantByCoins 10 = .ok (.if_icmp .ge 23, 3) := by decide +kernel
theorem dX8_tenantByCoins_13 : decode cX8_tenantByCoins 13 = .ok (.aload_n 0, 1) := by decide +kernel
theorem dX8_tenantByCoins_14 : decode cX8_tenantByCoins 14 = .ok (.getfield 10, 3) := by decide +kernel
theorem dX8_tenantByCoins_17 : decode cX8_tenantByCoins 17 = .ok (.iload_n 2, 1) := by decide +kernel
theorem dX8_tenantByCoins_18 : decode cX8_tenantByCoins 18 = .ok (.invokevirtual 260, 3) := by decide +kernel
theorem dX8_tenantByCoins_21 : decode cX8_tenantByCoins 21 = .ok (.iload_n 1, 1) := by decide +kernel
theorem dX8_tenantByCoins_22 : decode cX8_tenantByCoins 22 = .ok (.if_icmp .ne 5, 3) := by decide +kernel
theorem dX8_tenantByCoins_25 : decode cX8_tenantByCoins 25 = .ok (.iload_n 2, 1) := by decide +kernel
theorem dX8_tenantByCoins_26 : decode cX8_tenantByCoins 26 = .ok (.ireturn, 1) := by decide +kernel
theorem dX8_tenantByCoins_27 : decode cX8_tenantByCoins 27 = .ok (.iinc 2 1, 3) := by decide +kernel
theorem dX8_tenantByCoins_30 : decode cX8_tenantByCoins 30 = .ok (.goto (-28), 3) := by decide +kernel
theorem dX8_tenantByCoins_33 : decode cX8_tenantByCoins 33 = .ok (.new 185, 3) := by decide +kernel
theorem dX8_tenantByCoins_36 : decode cX8_tenantByCoins 36 = .ok (.dup, 1) := by decide +kernel
theorem dX8_tenantByCoins_37 : decode cX8_tenantByCoins 37 = .ok (.invokespecial 187, 3) := by decide +kernel
theorem dX8_tenantByCoins_40 : decode cX8_tenantByCoins 40 = .ok (.athrow, 1) := by decide +kernel
theorem dX8_meanRent_0 : decode cX8_meanRent 0 = .ok (.aload_n 0, 1) := by decide +kernel
theorem dX8_meanRent_1 : decode cX8_meanRent 1 = .ok (.getfield 10, 3) := by decide +kernel
theorem dX8_meanRent_4 : decode cX8_meanRent 4 = .ok (.getfield 77, 3) := by decide +kernel
theorem dX8_meanRent_7 : decode cX8_meanRent 7 = .ok (.getfield 108, 3) := by decide +kernel
theorem dX8_meanRent_10 : decode cX8_meanRent 10 = .ok (.istore_n 1, 1) := by decide +kernel
theorem dX8_meanRent_11 : decode cX8_meanRent 11 = .ok (.iload_n 1, 1) := by decide +kernel
theorem dX8_meanRent_12 : decode cX8_meanRent 12 = .ok (.ifCond .ne 11, 3) := by decide +kernel
theorem dX8_meanRent_15 : decode cX8_meanRent 15 = .ok (.new 263, 3) := by decide +kernel
theorem dX8_meanRent_18 : decode cX8_meanRent 18 = .ok (.dup, 1) := by decide +kernel
theorem dX8_meanRent_19 : decode cX8_meanRent 19 = .ok (.invokespecial 265, 3) := by decide +kernel
theorem dX8_meanRent_22 : decode cX8_meanRent 22 = .ok (.athrow, 1) := by decide +kernel
theorem dX8_meanRent_23 : decode cX8_meanRent 23 = .ok (.iconst 0, 1) := by decide +kernel
theorem dX8_meanRent_24 : decode cX8_meanRent 24 = .ok (.istore_n 2, 1) := by decide +kernel
theorem dX8_meanRent_25 : decode cX8_meanRent 25 = .ok (.iconst 0, 1) := by decide +kernel
theorem dX8_meanRent_26 : decode cX8_meanRent 26 = .ok (.istore_n 3, 1) := by decide +kernel
theorem dX8_meanRent_27 : decode cX8_meanRent 27 = .ok (.iload_n 3, 1) := by decide +kernel
theorem dX8_meanRent_28 : decode cX8_meanRent 28 = .ok (.iload_n 1, 1) := by decide +kernel
theorem dX8_meanRent_29 : decode cX8_meanRent 29 = .ok (.if_icmp .ge 23, 3) := by decide +kernel
theorem dX8_meanRent_32 : decode cX8_meanRent 32 = .ok (.iload_n 2, 1) := by decide +kernel
theorem dX8_meanRent_33 : decode cX8_meanRent 33 = .ok (.aload_n 0, 1) := by decide +kernel
theorem dX8_meanRent_34 : decode cX8_meanRent 34 = .ok (.getfield 10, 3) := by decide +kernel
theorem dX8_meanRent_37 : decode cX8_meanRent 37 = .ok (.getfield 77, 3) := by decide +kernel
theorem dX8_meanRent_40 : decode cX8_meanRent 40 = .ok (.iload_n 3, 1) := by decide +kernel
theorem dX8_meanRent_41 : decode cX8_meanRent 41 = .ok (.invokevirtual 125, 3) := by decide +kernel
theorem dX8_meanRent_44 : decode cX8_meanRent 44 = .ok (.iadd, 1) := by decide +kernel
theorem dX8_meanRent_45 : decode cX8_meanRent 45 = .ok (.istore_n 2, 1) := by decide +kernel
theorem dX8_meanRent_46 : decode cX8_meanRent 46 = .ok (.iinc 3 1, 3) := by decide +kernel
theorem dX8_meanRent_49 : decode cX8_meanRent 49 = .ok (.goto (-22), 3) := by decide +kernel
theorem dX8_meanRent_52 : decode cX8_meanRent 52 = .ok (.iload_n 2, 1) := by decide +kernel
theorem dX8_meanRent_53 : decode cX8_meanRent 53 = .ok (.i2d, 1) := by decide +kernel
theorem dX8_meanRent_54 : decode cX8_meanRent 54 = .ok (.iload_n 1, 1) := by decide +kernel
theorem dX8_meanRent_55 : decode cX8_meanRent 55 = .ok (.i2d, 1) := by decide +kernel
theorem dX8_meanRent_56 : decode cX8_meanRent 56 = .ok (.ddiv, 1) := by decide +kernel
theorem dX8_meanRent_57 : decode cX8_meanRent 57 = .ok (.dreturn, 1) := by decide +kernel
theorem dX8_letShare_0 : decode cX8_letShare 0 = .ok (.aload_n 0, 1) := by decide +kernel
theorem dX8_letShare_1 : decode cX8_letShare 1 = .ok (.getfield 10, 3) := by decide +kernel
theorem dX8_letShare_4 : decode cX8_letShare 4 = .ok (.getfield 77, 3) := by decide +kernel
theorem dX8_letShare_7 : decode cX8_letShare 7 = .ok (.getfield 108, 3) := by decide +kernel
theorem dX8_letShare_10 : decode cX8_letShare 10 = .ok (.istore_n 1, 1) := by decide +kernel
theorem dX8_letShare_11 : decode cX8_letShare 11 = .ok (.iload_n 1, 1) := by decide +kernel
theorem dX8_letShare_12 : decode cX8_letShare 12 = .ok (.ifCond .ne 11, 3) := by decide +kernel
theorem dX8_letShare_15 : decode cX8_letShare 15 = .ok (.new 263, 3) := by decide +kernel
theorem dX8_letShare_18 : decode cX8_letShare 18 = .ok (.dup, 1) := by decide +kernel
theorem dX8_letShare_19 : decode cX8_letShare 19 = .ok (.invokespecial 265, 3) := by decide +kernel
theorem dX8_letShare_22 : decode cX8_letShare 22 = .ok (.athrow, 1) := by decide +kernel
theorem dX8_letShare_23 : decode cX8_letShare 23 = .ok (.iconst 0, 1) := by decide +kernel
theorem dX8_letShare_24 : decode cX8_letShare 24 = .ok (.istore_n 2, 1) := by decide +kernel
theorem dX8_letShare_25 : decode cX8_letShare 25 = .ok (.iconst 0, 1) := by decide +kernel
theorem dX8_letShare_26 : decode cX8_letShare 26 = .ok (.istore_n 3, 1) := by decide +kernel
theorem dX8_letShare_27 : decode cX8_letShare 27 = .ok (.iload_n 3, 1) := by decide +kernel
theorem dX8_letShare_28 : decode cX8_letShare 28 = .ok (.iload_n 1, 1) := by decide +kernel
theorem dX8_letShare_29 : decode cX8_letShare 29 = .ok (.if_icmp .ge 23, 3) := by decide +kernel
theorem dX8_letShare_32 : decode cX8_letShare 32 = .ok (.aload_n 0, 1) := by decide +kernel
theorem dX8_letShare_33 : decode cX8_letShare 33 = .ok (.getfield 10, 3) := by decide +kernel
theorem dX8_letShare_36 : decode cX8_letShare 36 = .ok (.iload_n 3, 1) := by decide +kernel
theorem dX8_letShare_37 : decode cX8_letShare 37 = .ok (.invokevirtual 203, 3) := by decide +kernel
theorem dX8_letShare_40 : decode cX8_letShare 40 = .ok (.ifCond .eq 6, 3) := by decide +kernel
theorem dX8_letShare_43 : decode cX8_letShare 43 = .ok (.iinc 2 1, 3) := by decide +kernel
theorem dX8_letShare_46 : decode cX8_letShare 46 = .ok (.iinc 3 1, 3) := by decide +kernel
theorem dX8_letShare_49 : decode cX8_letShare 49 = .ok (.goto (-22), 3) := by decide +kernel
theorem dX8_letShare_52 : decode cX8_letShare 52 = .ok (.iload_n 2, 1) := by decide +kernel
theorem dX8_letShare_53 : decode cX8_letShare 53 = .ok (.i2f, 1) := by decide +kernel
theorem dX8_letShare_54 : decode cX8_letShare 54 = .ok (.iload_n 1, 1) := by decide +kernel
theorem dX8_letShare_55 : decode cX8_letShare 55 = .ok (.i2f, 1) := by decide +kernel
theorem dX8_letShare_56 : decode cX8_letShare 56 = .ok (.fdiv, 1) := by decide +kernel
theorem dX8_letShare_57 : decode cX8_letShare 57 = .ok (.freturn, 1) := by decide +kernel
theorem dX8_isConsistent_0 : decode cX8_isConsistent 0 = .ok (.aload_n 0, 1) := by decide +kernel
theorem dX8_isConsistent_1 : decode cX8_isConsistent 1 = .ok (.invokevirtual 266, 3) := by decide +kernel
theorem dX8_isConsistent_4 : decode cX8_isConsistent 4 = .ok (.ifCond .eq 60, 3) := by decide +kernel
theorem dX8_isConsistent_7 : decode cX8_isConsistent 7 = .ok (.aload_n 0, 1) := by decide +kernel
theorem dX8_isConsistent_8 : decode cX8_isConsistent 8 = .ok (.iconst 1, 1) := by decide +kernel
theorem dX8_isConsistent_9 : decode cX8_isConsistent 9 = .ok (.invokevirtual 270, 3) := by decide +kernel
theorem dX8_isConsistent_12 : decode cX8_isConsistent 12 = .ok (.ifCond .eq 52, 3) := by decide +kernel
theorem dX8_isConsistent_15 : decode cX8_isConsistent 15 = .ok (.aload_n 0, 1) := by decide +kernel
theorem dX8_isConsistent_16 : decode cX8_isConsistent 16 = .ok (.bipush 6, 2) := by decide +kernel
theorem dX8_isConsistent_18 : decode cX8_isConsistent 18 = .ok (.invokevirtual 270, 3) := by decide +kernel
theorem dX8_isConsistent_21 : decode cX8_isConsistent 21 = .ok (.ifCond .eq 43, 3) := by decide +kernel
theorem dX8_isConsistent_24 : decode cX8_isConsistent 24 = .ok (.aload_n 0, 1) := by decide +kernel
theorem dX8_isConsistent_25 : decode cX8_isConsistent 25 = .ok (.bipush 12, 2) := by decide +kernel
theorem dX8_isConsistent_27 : decode cX8_isConsistent 27 = .ok (.invokevirtual 270, 3) := by decide +kernel
theorem dX8_isConsistent_30 : decode cX8_isConsistent 30 = .ok (.ifCond .eq 34, 3) := by decide +kernel
theorem dX8_isConsistent_33 : decode cX8_isConsistent 33 = .ok (.aload_n 0, 1) := by decide +kernel
theorem dX8_isConsistent_34 : decode cX8_isConsistent 34 = .ok (.getfield 10, 3) := by decide +kernel
theorem dX8_isConsistent_37 : decode cX8_isConsistent 37 = .ok (.invokevirtual 242, 3) := by decide +kernel
theorem dX8_isConsistent_40 : decode cX8_isConsistent 40 = .ok (.aload_n 0, 1) := by decide +kernel
theorem dX8_isConsistent_41 : decode cX8_isConsistent 41 = .ok (.getfield 10, 3) := by decide +kernel
theorem dX8_isConsistent_44 : decode cX8_isConsistent 44 = .ok (.getfield 245, 3) := by decide +kernel
theorem dX8_isConsistent_47 : decode cX8_isConsistent 47 = .ok (.if_icmp .ne 17, 3) := by decide +kernel
theorem dX8_isConsistent_50 : decode cX8_isConsistent 50 = .ok (.aload_n 0, 1) := by decide +kernel
theorem dX8_isConsistent_51 : decode cX8_isConsistent 51 = .ok (.getfield 10, 3) := by decide +kernel
theorem dX8_isConsistent_54 : decode cX8_isConsistent 54 = .ok (.invokevirtual 273, 3) := by decide +kernel
theorem dX8_isConsistent_57 : decode cX8_isConsistent 57 = .ok (.ifCond .ne 7, 3) := by decide +kernel
theorem dX8_isConsistent_60 : decode cX8_isConsistent 60 = .ok (.iconst 1, 1) := by decide +kernel
theorem dX8_isConsistent_61 : decode cX8_isConsistent 61 = .ok (.goto 4, 3) := by decide +kernel
theorem dX8_isConsistent_64 : decode cX8_isConsistent 64 = .ok (.iconst 0, 1) := by decide +kernel
theorem dX8_isConsistent_65 : decode cX8_isConsistent 65 = .ok (.ireturn, 1) := by decide +kernel
theorem dX8_writeRow_0 : decode cX8_writeRow 0 = .ok (.aload_n 0, 1) := by decide +kernel
theorem dX8_writeRow_1 : decode cX8_writeRow 1 = .ok (.iload_n 1, 1) := by decide +kernel
theorem dX8_writeRow_2 : decode cX8_writeRow 2 = .ok (.iconst 0, 1) := by decide +kernel
theorem dX8_writeRow_3 : decode cX8_writeRow 3 = .ok (.invokevirtual 145, 3) := by decide +kernel
theorem dX8_writeRow_6 : decode cX8_writeRow 6 = .ok (.aload_n 0, 1) := by decide +kernel
theorem dX8_writeRow_7 : decode cX8_writeRow 7 = .ok (.getfield 57, 3) := by decide +kernel
theorem dX8_writeRow_10 : decode cX8_writeRow 10 = .ok (.iconst 0, 1) := by decide +kernel
theorem dX8_writeRow_11 : decode cX8_writeRow 11 = .ok (.invokevirtual 276, 3) := by decide +kernel
theorem dX8_writeRow_14 : decode cX8_writeRow 14 = .ok (.iconst 0, 1) := by decide +kernel
theorem dX8_writeRow_15 : decode cX8_writeRow 15 = .ok (.istore_n 2, 1) := by decide +kernel
theorem dX8_writeRow_16 : decode cX8_writeRow 16 = .ok (.iload_n 2, 1) := by decide +kernel
theorem dX8_writeRow_17 : decode cX8_writeRow 17 = .ok (.bipush 6, 2) := by decide +kernel
theorem dX8_writeRow_19 : decode cX8_writeRow 19 = .ok (.if_icmp .ge 29, 3) := by decide +kernel
theorem dX8_writeRow_22 : decode cX8_writeRow 22 = .ok (.aload_n 0, 1) := by decide +kernel
theorem dX8_writeRow_23 : decode cX8_writeRow 23 = .ok (.getfield 57, 3) := by decide +kernel
theorem dX8_writeRow_26 : decode cX8_writeRow 26 = .ok (.aload_n 0, 1) := by decide +kernel
theorem dX8_writeRow_27 : decode cX8_writeRow 27 = .ok (.getfield 10, 3) := by decide +kernel
theorem dX8_writeRow_30 : decode cX8_writeRow 30 = .ok (.getfield 77, 3) := by decide +kernel
theorem dX8_writeRow_33 : decode cX8_writeRow 33 = .ok (.iload_n 1, 1) := by decide +kernel
theorem dX8_writeRow_34 : decode cX8_writeRow 34 = .ok (.iload_n 2, 1) := by decide +kernel
theorem dX8_writeRow_35 : decode cX8_writeRow 35 = .ok (.invokevirtual 289, 3) := by decide +kernel
theorem dX8_writeRow_38 : decode cX8_writeRow 38 = .ok (.invokevirtual 283, 3) := by decide +kernel
theorem dX8_writeRow_41 : decode cX8_writeRow 41 = .ok (.pop, 1) := by decide +kernel
theorem dX8_writeRow_42 : decode cX8_writeRow 42 = .ok (.iinc 2 1, 3) := by decide +kernel
theorem dX8_writeRow_45 : decode cX8_writeRow 45 = .ok (.goto (-29), 3) := by decide +kernel
theorem dX8_writeRow_48 : decode cX8_writeRow 48 = .ok (.aload_n 0, 1) := by decide +kernel
theorem dX8_writeRow_49 : decode cX8_writeRow 49 = .ok (.getfield 57, 3) := by decide +kernel
theorem dX8_writeRow_52 : decode cX8_writeRow 52 = .ok (.invokevirtual 286, 3) := by decide +kernel
theorem dX8_writeRow_55 : decode cX8_writeRow 55 = .ok (.ireturn, 1) := by decide +kernel
theorem dX8_outputAt_0 : decode cX8_outputAt 0 = .ok (.iload_n 1, 1) := by decide +kernel
theorem dX8_outputAt_1 : decode cX8_outputAt 1 = .ok (.ifCond .lt 14, 3) := by decide +kernel
theorem dX8_outputAt_4 : decode cX8_outputAt 4 = .ok (.iload_n 1, 1) := by decide +kernel
theorem dX8_outputAt_5 : decode cX8_outputAt 5 = .ok (.aload_n 0, 1) := by decide +kernel
theorem dX8_outputAt_6 : decode cX8_outputAt 6 = .ok (.getfield 57, 3) := by decide +kernel
theorem dX8_outputAt_9 : decode cX8_outputAt 9 = .ok (.invokevirtual 286, 3) := by decide +kernel
theorem dX8_outputAt_12 : decode cX8_outputAt 12 = .ok (.if_icmp .lt 11, 3) := by decide +kernel
theorem dX8_outputAt_15 : decode cX8_outputAt 15 = .ok (.new 293, 3) := by decide +kernel
theorem dX8_outputAt_18 : decode cX8_outputAt 18 = .ok (.dup, 1) := by decide +kernel
theorem dX8_outputAt_19 : decode cX8_outputAt 19 = .ok (.invokespecial 295, 3) := by decide +kernel
theorem dX8_outputAt_22 : decode cX8_outputAt 22 = .ok (.athrow, 1) := by decide +kernel
theorem dX8_outputAt_23 : decode cX8_outputAt 23 = .ok (.aload_n 0, 1) := by decide +kernel
theorem dX8_outputAt_24 : decode cX8_outputAt 24 = .ok (.getfield 57, 3) := by decide +kernel
theorem dX8_outputAt_27 : decode cX8_outputAt 27 = .ok (.iload_n 1, 1) := by decide +kernel
theorem dX8_outputAt_28 : decode cX8_outputAt 28 = .ok (.invokevirtual 296, 3) := by decide +kernel
theorem dX8_outputAt_31 : decode cX8_outputAt 31 = .ok (.ireturn, 1) := by decide +kernel
theorem dX8_appendInput_0 : decode cX8_appendInput 0 = .ok (.iload_n 1, 1) := by decide +kernel
theorem dX8_appendInput_1 : decode cX8_appendInput 1 = .ok (.bipush 32, 2) := by decide +kernel
theorem dX8_appendInput_3 : decode cX8_appendInput 3 = .ok (.if_icmp .lt 9, 3) := by decide +kernel
theorem dX8_appendInput_6 : decode cX8_appendInput 6 = .ok (.iload_n 1, 1) := by decide +kernel
theorem dX8_appendInput_7 : decode cX8_appendInput 7 = .ok (.bipush 126, 2) := by decide +kernel
theorem dX8_appendInput_9 : decode cX8_appendInput 9 = .ok (.if_icmp .le 11, 3) := by decide +kernel
theorem dX8_appendInput_12 : decode cX8_appendInput 12 = .ok (.new 300, 3) := by decide +kernel
theorem dX8_appendInput_15 : decode cX8_appendInput 15 = .ok (.dup, 1) := by decide +kernel
theorem dX8_appendInput_16 : decode cX8_appendInput 16 = .ok (.invokespecial 302, 3) := by decide +kernel
theorem dX8_appendInput_19 : decode cX8_appendInput 19 = .ok (.athrow, 1) := by decide +kernel
theorem dX8_appendInput_20 : decode cX8_appendInput 20 = .ok (.aload_n 0, 1) := by decide +kernel
theorem dX8_appendInput_21 : decode cX8_appendInput 21 = .ok (.getfield 50, 3) := by decide +kernel
theorem dX8_appendInput_24 : decode cX8_appendInput 24 = .ok (.getfield 303, 3) := by decide +kernel
theorem dX8_appendInput_27 : decode cX8_appendInput 27 = .ok (.bipush 60, 2) := by decide +kernel
theorem dX8_appendInput_29 : decode cX8_appendInput 29 = .ok (.if_icmp .lt 11, 3) := by decide +kernel
theorem dX8_appendInput_32 : decode cX8_appendInput 32 = .ok (.new 305, 3) := by decide +kernel
theorem dX8_appendInput_35 : decode cX8_appendInput 35 = .ok (.dup, 1) := by decide +kernel
theorem dX8_appendInput_36 : decode cX8_appendInput 36 = .ok (.invokespecial 307, 3) := by decide +kernel
theorem dX8_appendInput_39 : decode cX8_appendInput 39 = .ok (.athrow, 1) := by decide +kernel
theorem dX8_appendInput_40 : decode cX8_appendInput 40 = .ok (.aload_n 0, 1) := by decide +kernel
theorem dX8_appendInput_41 : decode cX8_appendInput 41 = .ok (.getfield 50, 3) := by decide +kernel
theorem dX8_appendInput_44 : decode cX8_appendInput 44 = .ok (.getfield 308, 3) := by decide +kernel
theorem dX8_appendInput_47 : decode cX8_appendInput 47 = .ok (.aload_n 0, 1) := by decide +kernel
theorem dX8_appendInput_48 : decode cX8_appendInput 48 = .ok (.getfield 50, 3) := by decide +kernel
theorem dX8_appendInput_51 : decode cX8_appendInput 51 = .ok (.getfield 303, 3) := by decide +kernel
theorem dX8_appendInput_54 : decode cX8_appendInput 54 = .ok (.iload_n 1, 1) := by decide +kernel
theorem dX8_appendInput_55 : decode cX8_appendInput 55 = .ok (.castore, 1) := by decide +kernel
theorem dX8_appendInput_56 : decode cX8_appendInput 56 = .ok (.aload_n 0, 1) := by decide +kernel
theorem dX8_appendInput_57 : decode cX8_appendInput 57 = .ok (.getfield 50, 3) := by decide +kernel
theorem dX8_appendInput_60 : decode cX8_appendInput 60 = .ok (.dup, 1) := by decide +kernel
theorem dX8_appendInput_61 : decode cX8_appendInput 61 = .ok (.getfield 303, 3) := by decide +kernel
theorem dX8_appendInput_64 : decode cX8_appendInput 64 = .ok (.iconst 1, 1) := by decide +kernel
theorem dX8_appendInput_65 : decode cX8_appendInput 65 = .ok (.iadd, 1) := by decide +kernel
theorem dX8_appendInput_66 : decode cX8_appendInput 66 = .ok (.putfield 303, 3) := by decide +kernel
theorem dX8_appendInput_69 : decode cX8_appendInput 69 = .ok (.aload_n 0, 1) := by decide +kernel
theorem dX8_appendInput_70 : decode cX8_appendInput 70 = .ok (.getfield 50, 3) := by decide +kernel
theorem dX8_appendInput_73 : decode cX8_appendInput 73 = .ok (.getfield 303, 3) := by decide +kernel
theorem dX8_appendInput_76 : decode cX8_appendInput 76 = .ok (.ireturn, 1) := by decide +kernel
theorem dX8_execute_0 : decode cX8_execute 0 = .ok (.aload_n 0, 1) := by decide +kernel
theorem dX8_execute_1 : decode cX8_execute 1 = .ok (.getfield 50, 3) := by decide +kernel
theorem dX8_execute_4 : decode cX8_execute 4 = .ok (.invokevirtual 312, 3) := by decide +kernel
theorem dX8_execute_7 : decode cX8_execute 7 = .ok (.istore_n 1, 1) := by decide +kernel
theorem dX8_execute_8 : decode cX8_execute 8 = .ok (.iload_n 1, 1) := by decide +kernel
theorem dX8_execute_9 : decode cX8_execute 9 = .ok (.iconst (-1), 1) := by decide +kernel
theorem dX8_execute_10 : decode cX8_execute 10 = .ok (.if_icmp .ne 30, 3) := by decide +kernel
theorem dX8_execute_13 : decode cX8_execute 13 = .ok (.aload_n 0, 1) := by decide +kernel
theorem dX8_execute_14 : decode cX8_execute 14 = .ok (.aload_n 0, 1) := by decide +kernel
theorem dX8_execute_15 : decode cX8_execute 15 = .ok (.getfield 50, 3) := by decide +kernel
theorem dX8_execute_18 : decode cX8_execute 18 = .ok (.getfield 315, 3) := by decide +kernel
theorem dX8_execute_21 : decode cX8_execute 21 = .ok (.putfield 71, 3) := by decide +kernel
theorem dX8_execute_24 : decode cX8_execute 24 = .ok (.aload_n 0, 1) := by decide +kernel
theorem dX8_execute_25 : decode cX8_execute 25 = .ok (.getfield 50, 3) := by decide +kernel
theorem dX8_execute_28 : decode cX8_execute 28 = .ok (.iconst 0, 1) := by decide +kernel
theorem dX8_execute_29 : decode cX8_execute 29 = .ok (.putfield 303, 3) := by decide +kernel
theorem dX8_execute_32 : decode cX8_execute 32 = .ok (.new 300, 3) := by decide +kernel
theorem dX8_execute_35 : decode cX8_execute 35 = .ok (.dup, 1) := by decide +kernel
theorem dX8_execute_36 : decode cX8_execute 36 = .ok (.invokespecial 302, 3) := by decide +kernel
theorem dX8_execute_39 : decode cX8_execute 39 = .ok (.athrow, 1) := by decide +kernel
theorem dX8_execute_40 : decode cX8_execute 40 = .ok (.aload_n 0, 1) := by decide +kernel
theorem dX8_execute_41 : decode cX8_execute 41 = .ok (.iload_n 1, 1) := by decide +kernel
theorem dX8_execute_42 : decode cX8_execute 42 = .ok (.invokevirtual 318, 3) := by decide +kernel
theorem dX8_execute_45 : decode cX8_execute 45 = .ok (.istore_n 2, 1) := by decide +kernel
theorem dX8_execute_46 : decode cX8_execute 46 = .ok (.aload_n 0, 1) := by decide +kernel
theorem dX8_execute_47 : decode cX8_execute 47 = .ok (.getfield 50, 3) := by decide +kernel
theorem dX8_execute_50 : decode cX8_execute 50 = .ok (.iconst 0, 1) := by decide +kernel
theorem dX8_execute_51 : decode cX8_execute 51 = .ok (.putfield 303, 3) := by decide +kernel
theorem dX8_execute_54 : decode cX8_execute 54 = .ok (.iload_n 2, 1) := by decide +kernel
theorem dX8_execute_55 : decode cX8_execute 55 = .ok (.iconst (-1), 1) := by decide +kernel
theorem dX8_execute_56 : decode cX8_execute 56 = .ok (.if_icmp .ne 9, 3) := by decide +kernel
theorem dX8_execute_59 : decode cX8_execute 59 = .ok (.aload_n 0, 1) := by decide +kernel
theorem dX8_execute_60 : decode cX8_execute 60 = .ok (.invokevirtual 321, 3) := by decide +kernel
theorem dX8_execute_63 : decode cX8_execute 63 = .ok (.iload_n 1, 1) := by decide +kernel
theorem dX8_execute_64 : decode cX8_execute 64 = .ok (.ireturn, 1) := by decide +kernel
theorem dX8_execute_65 : decode cX8_execute 65 = .ok (.aload_n 0, 1) := by decide +kernel
theorem dX8_execute_66 : decode cX8_execute 66 = .ok (.getfield 36, 3) := by decide +kernel
theorem dX8_execute_69 : decode cX8_execute 69 = .ok (.getfield 324, 3) := by decide +kernel
theorem dX8_execute_72 : decode cX8_execute 72 = .ok (.iconst 3, 1) := by decide +kernel
theorem dX8_execute_73 : decode cX8_execute 73 = .ok (.if_icmp .eq 11, 3) := by decide +kernel
theorem dX8_execute_76 : decode cX8_execute 76 = .ok (.new 305, 3) := by decide +kernel
theorem dX8_execute_79 : decode cX8_execute 79 = .ok (.dup, 1) := by decide +kernel
theorem dX8_execute_80 : decode cX8_execute 80 = .ok (.invokespecial 307, 3) := by decide +kernel
theorem dX8_execute_83 : decode cX8_execute 83 = .ok (.athrow, 1) := by decide +kernel
theorem dX8_execute_84 : decode cX8_execute 84 = .ok (.aload_n 0, 1) := by decide +kernel
theorem dX8_execute_85 : decode cX8_execute 85 = .ok (.bipush 12, 2) := by decide +kernel
theorem dX8_execute_87 : decode cX8_execute 87 = .ok (.iload_n 2, 1) := by decide +kernel
theorem dX8_execute_88 : decode cX8_execute 88 = .ok (.aload_n 0, 1) := by decide +kernel
theorem dX8_execute_89 : decode cX8_execute 89 = .ok (.getfield 36, 3) := by decide +kernel
theorem dX8_execute_92 : decode cX8_execute 92 = .ok (.getfield 327, 3) := by decide +kernel
theorem dX8_execute_95 : decode cX8_execute 95 = .ok (.invokevirtual 330, 3) := by decide +kernel
theorem dX8_execute_98 : decode cX8_execute 98 = .ok (.new 334, 3) := by decide +kernel
theorem dX8_execute_101 : decode cX8_execute 101 = .ok (.dup, 1) := by decide +kernel
theorem dX8_execute_102 : decode cX8_execute 102 = .ok (.invokespecial 336, 3) := by decide +kernel
theorem dX8_execute_105 : decode cX8_execute 105 = .ok (.athrow, 1) := by decide +kernel
theorem dX8_undo_0 : decode cX8_undo 0 = .ok (.aload_n 0, 1) := by decide +kernel
theorem dX8_undo_1 : decode cX8_undo 1 = .ok (.getfield 22, 3) := by decide +kernel
theorem dX8_undo_4 : decode cX8_undo 4 = .ok (.getfield 337, 3) := by decide +kernel
theorem dX8_undo_7 : decode cX8_undo 7 = .ok (.ifCond .ne 11, 3) := by decide +kernel
theorem dX8_undo_10 : decode cX8_undo 10 = .ok (.new 305, 3) := by decide +kernel
theorem dX8_undo_13 : decode cX8_undo 13 = .ok (.dup, 1) := by decide +kernel
theorem dX8_undo_14 : decode cX8_undo 14 = .ok (.invokespecial 307, 3) := by decide +kernel
theorem dX8_undo_17 : decode cX8_undo 17 = .ok (.athrow, 1) := by decide +kernel
theorem dX8_undo_18 : decode cX8_undo 18 = .ok (.aload_n 0, 1) := by decide +kernel
theorem dX8_undo_19 : decode cX8_undo 19 = .ok (.getfield 22, 3) := by decide +kernel
theorem dX8_undo_22 : decode cX8_undo 22 = .ok (.aload_n 0, 1) := by decide +kernel
theorem dX8_undo_23 : decode cX8_undo 23 = .ok (.getfield 10, 3) := by decide +kernel
theorem dX8_undo_26 : decode cX8_undo 26 = .ok (.invokevirtual 340, 3) := by decide +kernel
theorem dX8_undo_29 : decode cX8_undo 29 = .ok (.aload_n 0, 1) := by decide +kernel
theorem dX8_undo_30 : decode cX8_undo 30 = .ok (.getfield 22, 3) := by decide +kernel
theorem dX8_undo_33 : decode cX8_undo 33 = .ok (.getfield 337, 3) := by decide +kernel
theorem dX8_undo_36 : decode cX8_undo 36 = .ok (.ireturn, 1) := by decide +kernel
theorem dX8_saveSnapshot_0 : decode cX8_saveSnapshot 0 = .ok (.aload_n 0, 1) := by decide +kernel
theorem dX8_saveSnapshot_1 : decode cX8_saveSnapshot 1 = .ok (.getfield 26, 3) := by decide +kernel
theorem dX8_saveSnapshot_4 : decode cX8_saveSnapshot 4 = .ok (.aload_n 0, 1) := by decide +kernel
theorem dX8_saveSnapshot_5 : decode cX8_saveSnapshot 5 = .ok (.getfield 10, 3) := by decide +kernel
theorem dX8_saveSnapshot_8 : decode cX8_saveSnapshot 8 = .ok (.invokevirtual 344, 3) := by decide +kernel
theorem dX8_saveSnapshot_11 : decode cX8_saveSnapshot 11 = .ok (.aload_n 0, 1) := by decide +kernel
theorem dX8_saveSnapshot_12 : decode cX8_saveSnapshot 12 = .ok (.iconst 1, 1) := by decide +kernel
theorem dX8_saveSnapshot_13 : decode cX8_saveSnapshot 13 = .ok (.putfield 29, 3) := by decide +kernel
theorem dX8_saveSnapshot_16 : decode cX8_saveSnapshot 16 = .ok (.aload_n 0, 1) := by decide +kernel
theorem dX8_saveSnapshot_17 : decode cX8_saveSnapshot 17 = .ok (.getfield 10, 3) := by decide +kernel
theorem dX8_saveSnapshot_20 : decode cX8_saveSnapshot 20 = .ok (.getfield 77, 3) := by decide +kernel
theorem dX8_saveSnapshot_23 : decode cX8_saveSnapshot 23 = .ok (.getfield 108, 3) := by decide +kernel
theorem dX8_saveSnapshot_26 : decode cX8_saveSnapshot 26 = .ok (.ireturn, 1) := by decide +kernel
theorem dX8_restoreSnapshot_0 : decode cX8_restoreSnapshot 0 = .ok (.aload_n 0, 1) := by decide +kernel
theorem dX8_restoreSnapshot_1 : decode cX8_restoreSnapshot 1 = .ok (.getfield 29, 3) := by decide +kernel
theorem dX8_restoreSnapshot_4 : decode cX8_restoreSnapshot 4 = .ok (.ifCond .ne 11, 3) := by decide +kernel
theorem dX8_restoreSnapshot_7 : decode cX8_restoreSnapshot 7 = .ok (.new 305, 3) := by decide +kernel
theorem dX8_restoreSnapshot_10 : decode cX8_restoreSnapshot 10 = .ok (.dup, 1) := by decide +kernel
theorem dX8_restoreSnapshot_11 : decode cX8_restoreSnapshot 11 = .ok (.invokespecial 307, 3) := by decide +kernel
theorem dX8_restoreSnapshot_14 : decode cX8_restoreSnapshot 14 = .ok (.athrow, 1) := by decide +kernel
theorem dX8_restoreSnapshot_15 : decode cX8_restoreSnapshot 15 = .ok (.aload_n 0, 1) := by decide +kernel
theorem dX8_restoreSnapshot_16 : decode cX8_restoreSnapshot 16 = .ok (.getfield 10, 3) := by decide +kernel
theorem dX8_restoreSnapshot_19 : decode cX8_restoreSnapshot 19 = .ok (.aload_n 0, 1) := by decide +kernel
theorem dX8_restoreSnapshot_20 : decode cX8_restoreSnapshot 20 = .ok (.getfield 26, 3) := by decide +kernel
theorem dX8_restoreSnapshot_23 : decode cX8_restoreSnapshot 23 = .ok (.invokevirtual 344, 3) := by decide +kernel
theorem dX8_restoreSnapshot_26 : decode cX8_restoreSnapshot 26 = .ok (.aload_n 0, 1) := by decide +kernel
theorem dX8_restoreSnapshot_27 : decode cX8_restoreSnapshot 27 = .ok (.getfield 22, 3) := by decide +kernel
theorem dX8_restoreSnapshot_30 : decode cX8_restoreSnapshot 30 = .ok (.iconst 0, 1) := by decide +kernel
theorem dX8_restoreSnapshot_31 : decode cX8_restoreSnapshot 31 = .ok (.putfield 337, 3) := by decide +kernel
theorem dX8_restoreSnapshot_34 : decode cX8_restoreSnapshot 34 = .ok (.aload_n 0, 1) := by decide +kernel
theorem dX8_restoreSnapshot_35 : decode cX8_restoreSnapshot 35 = .ok (.getfield 10, 3) := by decide +kernel
theorem dX8_restoreSnapshot_38 : decode cX8_restoreSnapshot 38 = .ok (.getfield 77, 3) := by decide +kernel
theorem dX8_restoreSnapshot_41 : decode cX8_restoreSnapshot 41 = .ok (.getfield 108, 3) := by decide +kernel
theorem dX8_restoreSnapshot_44 : decode cX8_restoreSnapshot 44 = .ok (.ireturn, 1) := by decide +kernel
theorem dX8_needCell_0 : decode cX8_needCell 0 = .ok (.iload_n 1, 1) := by decide +kernel
theorem dX8_needCell_1 : decode cX8_needCell 1 = .ok (.iload_n 2, 1) := by decide +kernel
theorem dX8_needCell_2 : decode cX8_needCell 2 = .ok (.invokestatic 347, 3) := by decide +kernel
theorem dX8_needCell_5 : decode cX8_needCell 5 = .ok (.ifCond .ne 11, 3) := by decide +kernel
theorem dX8_needCell_8 : decode cX8_needCell 8 = .ok (.new 293, 3) := by decide +kernel
theorem dX8_needCell_11 : decode cX8_needCell 11 = .ok (.dup, 1) := by decide +kernel
theorem dX8_needCell_12 : decode cX8_needCell 12 = .ok (.invokespecial 295, 3) := by decide +kernel
theorem dX8_needCell_15 : decode cX8_needCell 15 = .ok (.athrow, 1) := by decide +kernel
theorem dX8_needCell_16 : decode cX8_needCell 16 = .ok (.return_, 1) := by decide +kernel
theorem dX8_needBench_0 : decode cX8_needBench 0 = .ok (.aload_n 0, 1) := by decide +kernel
theorem dX8_needBench_1 : decode cX8_needBench 1 = .ok (.getfield 10, 3) := by decide +kernel
theorem dX8_needBench_4 : decode cX8_needBench 4 = .ok (.getfield 77, 3) := by decide +kernel
theorem dX8_needBench_7 : decode cX8_needBench 7 = .ok (.iload_n 1, 1) := by decide +kernel
theorem dX8_needBench_8 : decode cX8_needBench 8 = .ok (.invokevirtual 351, 3) := by decide +kernel
theorem dX8_needBench_11 : decode cX8_needBench 11 = .ok (.ifCond .ne 11, 3) := by decide +kernel
theorem dX8_needBench_14 : decode cX8_needBench 14 = .ok (.new 293, 3) := by decide +kernel
theorem dX8_needBench_17 : decode cX8_needBench 17 = .ok (.dup, 1) := by decide +kernel
theorem dX8_needBench_18 : decode cX8_needBench 18 = .ok (.invokespecial 295, 3) := by decide +kernel
theorem dX8_needBench_21 : decode cX8_needBench 21 = .ok (.athrow, 1) := by decide +kernel
theorem dX8_needBench_22 : decode cX8_needBench 22 = .ok (.return_, 1) := by decide +kernel
theorem dX8_needFountain_0 : decode cX8_needFountain 0 = .ok (.aload_n 0, 1) := by decide +kernel
theorem dX8_needFountain_1 : decode cX8_needFountain 1 = .ok (.getfield 10, 3) := by decide +kernel
theorem dX8_needFountain_4 : decode cX8_needFountain 4 = .ok (.getfield 77, 3) := by decide +kernel
theorem dX8_needFountain_7 : decode cX8_needFountain 7 = .ok (.iload_n 1, 1) := by decide +kernel
theorem dX8_needFountain_8 : decode cX8_needFountain 8 = .ok (.invokevirtual 354, 3) := by decide +kernel
theorem dX8_needFountain_11 : decode cX8_needFountain 11 = .ok (.ifCond .ne 11, 3) := by decide +kernel
theorem dX8_needFountain_14 : decode cX8_needFountain 14 = .ok (.new 293, 3) := by decide +kernel
theorem dX8_needFountain_17 : decode cX8_needFountain 17 = .ok (.dup, 1) := by decide +kernel
theorem dX8_needFountain_18 : decode cX8_needFountain 18 = .ok (.invokespecial 295, 3) := by decide +kernel
theorem dX8_needFountain_21 : decode cX8_needFountain 21 = .ok (.athrow, 1) := by decide +kernel
theorem dX8_needFountain_22 : decode cX8_needFountain 22 = .ok (.return_, 1) := by decide +kernel
theorem dX8_needTenant_0 : decode cX8_needTenant 0 = .ok (.aload_n 0, 1) := by decide +kernel
theorem dX8_needTenant_1 : decode cX8_needTenant 1 = .ok (.getfield 10, 3) := by decide +kernel
theorem dX8_needTenant_4 : decode cX8_needTenant 4 = .ok (.iload_n 1, 1) := by decide +kernel
theorem dX8_needTenant_5 : decode cX8_needTenant 5 = .ok (.invokevirtual 357, 3) := by decide +kernel
theorem dX8_needTenant_8 : decode cX8_needTenant 8 = .ok (.ifCond .ne 11, 3) := by decide +kernel
theorem dX8_needTenant_11 : decode cX8_needTenant 11 = .ok (.new 293, 3) := by decide +kernel
theorem dX8_needTenant_14 : decode cX8_needTenant 14 = .ok (.dup, 1) := by decide +kernel
theorem dX8_needTenant_15 : decode cX8_needTenant 15 = .ok (.invokespecial 295, 3) := by decide +kernel
theorem dX8_needTenant_18 : decode cX8_needTenant 18 = .ok (.athrow, 1) := by decide +kernel
theorem dX8_needTenant_19 : decode cX8_needTenant 19 = .ok (.return_, 1) := by decide +kernel
theorem dX8_needLease_0 : decode cX8_needLease 0 = .ok (.aload_n 0, 1) := by decide +kernel
theorem dX8_needLease_1 : decode cX8_needLease 1 = .ok (.iload_n 1, 1) := by decide +kernel
theorem dX8_needLease_2 : decode cX8_needLease 2 = .ok (.invokevirtual 111, 3) := by decide +kernel
theorem dX8_needLease_5 : decode cX8_needLease 5 = .ok (.aload_n 0, 1) := by decide +kernel
theorem dX8_needLease_6 : decode cX8_needLease 6 = .ok (.getfield 10, 3) := by decide +kernel
theorem dX8_needLease_9 : decode cX8_needLease 9 = .ok (.iload_n 1, 1) := by decide +kernel
theorem dX8_needLease_10 : decode cX8_needLease 10 = .ok (.invokevirtual 203, 3) := by decide +kernel
theorem dX8_needLease_13 : decode cX8_needLease 13 = .ok (.ifCond .ne 11, 3) := by decide +kernel
theorem dX8_needLease_16 : decode cX8_needLease 16 = .ok (.new 185, 3) := by decide +kernel
theorem dX8_needLease_19 : decode cX8_needLease 19 = .ok (.dup, 1) := by decide +kernel
theorem dX8_needLease_20 : decode cX8_needLease 20 = .ok (.invokespecial 187, 3) := by decide +kernel
theorem dX8_needLease_23 : decode cX8_needLease 23 = .ok (.athrow, 1) := by decide +kernel
theorem dX8_needLease_24 : decode cX8_needLease 24 = .ok (.return_, 1) := by decide +kernel
theorem dX8_needTerm_0 : decode cX8_needTerm 0 = .ok (.iload_n 1, 1) := by decide +kernel
theorem dX8_needTerm_1 : decode cX8_needTerm 1 = .ok (.invokestatic 360, 3) := by decide +kernel
theorem dX8_needTerm_4 : decode cX8_needTerm 4 = .ok (.ifCond .ne 11, 3) := by decide +kernel
theorem dX8_needTerm_7 : decode cX8_needTerm 7 = .ok (.new 300, 3) := by decide +kernel
theorem dX8_needTerm_10 : decode cX8_needTerm 10 = .ok (.dup, 1) := by decide +kernel
theorem dX8_needTerm_11 : decode cX8_needTerm 11 = .ok (.invokespecial 302, 3) := by decide +kernel
theorem dX8_needTerm_14 : decode cX8_needTerm 14 = .ok (.athrow, 1) := by decide +kernel
theorem dX8_needTerm_15 : decode cX8_needTerm 15 = .ok (.return_, 1) := by decide +kernel
theorem dX8_startChange_0 : decode cX8_startChange 0 = .ok (.aload_n 0, 1) := by decide +kernel
theorem dX8_startChange_1 : decode cX8_startChange 1 = .ok (.getfield 16, 3) := by decide +kernel
theorem dX8_startChange_4 : decode cX8_startChange 4 = .ok (.aload_n 0, 1) := by decide +kernel
theorem dX8_startChange_5 : decode cX8_startChange 5 = .ok (.getfield 10, 3) := by decide +kernel
theorem dX8_startChange_8 : decode cX8_startChange 8 = .ok (.invokevirtual 344, 3) := by decide +kernel
theorem dX8_startChange_11 : decode cX8_startChange 11 = .ok (.return_, 1) := by decide +kernel
theorem dX8_finishChange_0 : decode cX8_finishChange 0 = .ok (.aload_n 0, 1) := by decide +kernel
theorem dX8_finishChange_1 : decode cX8_finishChange 1 = .ok (.getfield 36, 3) := by decide +kernel
theorem dX8_finishChange_4 : decode cX8_finishChange 4 = .ok (.getfield 324, 3) := by decide +kernel
theorem dX8_finishChange_7 : decode cX8_finishChange 7 = .ok (.iconst 1, 1) := by decide +kernel
theorem dX8_finishChange_8 : decode cX8_finishChange 8 = .ok (.if_icmp .ne 11, 3) := by decide +kernel
theorem dX8_finishChange_11 : decode cX8_finishChange 11 = .ok (.new 293, 3) := by decide +kernel
theorem dX8_finishChange_14 : decode cX8_finishChange 14 = .ok (.dup, 1) := by decide +kernel
theorem dX8_finishChange_15 : decode cX8_finishChange 15 = .ok (.invokespecial 295, 3) := by decide +kernel
theorem dX8_finishChange_18 : decode cX8_finishChange 18 = .ok (.athrow, 1) := by decide +kernel
theorem dX8_finishChange_19 : decode cX8_finishChange 19 = .ok (.aload_n 0, 1) := by decide +kernel
theorem dX8_finishChange_20 : decode cX8_finishChange 20 = .ok (.getfield 36, 3) := by decide +kernel
theorem dX8_finishChange_23 : decode cX8_finishChange 23 = .ok (.getfield 324, 3) := by decide +kernel
theorem dX8_finishChange_26 : decode cX8_finishChange 26 = .ok (.iconst 2, 1) := by decide +kernel
theorem dX8_finishChange_27 : decode cX8_finishChange 27 = .ok (.if_icmp .ne 11, 3) := by decide +kernel
theorem dX8_finishChange_30 : decode cX8_finishChange 30 = .ok (.new 300, 3) := by decide +kernel
theorem dX8_finishChange_33 : decode cX8_finishChange 33 = .ok (.dup, 1) := by decide +kernel
theorem dX8_finishChange_34 : decode cX8_finishChange 34 = .ok (.invokespecial 302, 3) := by decide +kernel
theorem dX8_finishChange_37 : decode cX8_finishChange 37 = .ok (.athrow, 1) := by decide +kernel
theorem dX8_finishChange_38 : decode cX8_finishChange 38 = .ok (.aload_n 0, 1) := by decide +kernel
theorem dX8_finishChange_39 : decode cX8_finishChange 39 = .ok (.getfield 36, 3) := by decide +kernel
theorem dX8_finishChange_42 : decode cX8_finishChange 42 = .ok (.getfield 324, 3) := by decide +kernel
theorem dX8_finishChange_45 : decode cX8_finishChange 45 = .ok (.iconst 3, 1) := by decide +kernel
theorem dX8_finishChange_46 : decode cX8_finishChange 46 = .ok (.if_icmp .ne 30, 3) := by decide +kernel
theorem dX8_finishChange_49 : decode cX8_finishChange 49 = .ok (.aload_n 0, 1) := by decide +kernel
theorem dX8_finishChange_50 : decode cX8_finishChange 50 = .ok (.aload_n 0, 1) := by decide +kernel
theorem dX8_finishChange_51 : decode cX8_finishChange 51 = .ok (.getfield 36, 3) := by decide +kernel
theorem dX8_finishChange_54 : decode cX8_finishChange 54 = .ok (.getfield 327, 3) := by decide +kernel
theorem dX8_finishChange_57 : decode cX8_finishChange 57 = .ok (.aload_n 0, 1) := by decide +kernel
theorem dX8_finishChange_58 : decode cX8_finishChange 58 = .ok (.getfield 36, 3) := by decide +kernel
theorem dX8_finishChange_61 : decode cX8_finishChange 61 = .ok (.getfield 363, 3) := by decide +kernel
theorem dX8_finishChange_64 : decode cX8_finishChange 64 = .ok (.iconst 0, 1) := by decide +kernel
theorem dX8_finishChange_65 : decode cX8_finishChange 65 = .ok (.invokevirtual 330, 3) := by decide +kernel
theorem dX8_finishChange_68 : decode cX8_finishChange 68 = .ok (.new 334, 3) := by decide +kernel
theorem dX8_finishChange_71 : decode cX8_finishChange 71 = .ok (.dup, 1) := by decide +kernel
theorem dX8_finishChange_72 : decode cX8_finishChange 72 = .ok (.invokespecial 336, 3) := by decide +kernel
theorem dX8_finishChange_75 : decode cX8_finishChange 75 = .ok (.athrow, 1) := by decide +kernel
theorem dX8_finishChange_76 : decode cX8_finishChange 76 = .ok (.aload_n 0, 1) := by decide +kernel
theorem dX8_finishChange_77 : decode cX8_finishChange 77 = .ok (.invokevirtual 321, 3) := by decide +kernel
theorem dX8_finishChange_80 : decode cX8_finishChange 80 = .ok (.aload_n 0, 1) := by decide +kernel
theorem dX8_finishChange_81 : decode cX8_finishChange 81 = .ok (.getfield 36, 3) := by decide +kernel
theorem dX8_finishChange_84 : decode cX8_finishChange 84 = .ok (.getfield 366, 3) := by decide +kernel
theorem dX8_finishChange_87 : decode cX8_finishChange 87 = .ok (.ireturn, 1) := by decide +kernel
theorem dX8_keepTrial_0 : decode cX8_keepTrial 0 = .ok (.aload_n 0, 1) := by decide +kernel
theorem dX8_keepTrial_1 : decode cX8_keepTrial 1 = .ok (.getfield 22, 3) := by decide +kernel
theorem dX8_keepTrial_4 : decode cX8_keepTrial 4 = .ok (.aload_n 0, 1) := by decide +kernel
theorem dX8_keepTrial_5 : decode cX8_keepTrial 5 = .ok (.getfield 10, 3) := by decide +kernel
theorem dX8_keepTrial_8 : decode cX8_keepTrial 8 = .ok (.invokevirtual 369, 3) := by decide +kernel
theorem dX8_keepTrial_11 : decode cX8_keepTrial 11 = .ok (.aload_n 0, 1) := by decide +kernel
theorem dX8_keepTrial_12 : decode cX8_keepTrial 12 = .ok (.getfield 10, 3) := by decide +kernel
theorem dX8_keepTrial_15 : decode cX8_keepTrial 15 = .ok (.aload_n 0, 1) := by decide +kernel
theorem dX8_keepTrial_16 : decode cX8_keepTrial 16 = .ok (.getfield 16, 3) := by decide +kernel
theorem dX8_keepTrial_19 : decode cX8_keepTrial 19 = .ok (.invokevirtual 344, 3) := by decide +kernel
theorem dX8_keepTrial_22 : decode cX8_keepTrial 22 = .ok (.return_, 1) := by decide +kernel
theorem dX8_keepRejection_0 : decode cX8_keepRejection 0 = .ok (.aload_n 0, 1) := by decide +kernel
theorem dX8_keepRejection_1 : decode cX8_keepRejection 1 = .ok (.iload_n 1, 1) := by decide +kernel
theorem dX8_keepRejection_2 : decode cX8_keepRejection 2 = .ok (.putfield 61, 3) := by decide +kernel
theorem dX8_keepRejection_5 : decode cX8_keepRejection 5 = .ok (.aload_n 0, 1) := by decide +kernel
theorem dX8_keepRejection_6 : decode cX8_keepRejection 6 = .ok (.iload_n 2, 1) := by decide +kernel
theorem dX8_keepRejection_7 : decode cX8_keepRejection 7 = .ok (.putfield 65, 3) := by decide +kernel
theorem dX8_keepRejection_10 : decode cX8_keepRejection 10 = .ok (.aload_n 0, 1) := by decide +kernel
theorem dX8_keepRejection_11 : decode cX8_keepRejection 11 = .ok (.iload_n 3, 1) := by decide +kernel
theorem dX8_keepRejection_12 : decode cX8_keepRejection 12 = .ok (.putfield 68, 3) := by decide +kernel
theorem dX8_keepRejection_15 : decode cX8_keepRejection 15 = .ok (.return_, 1) := by decide +kernel
theorem dX8_tryCommands_0 : decode cX8_tryCommands 0 = .ok (.aload_n 0, 1) := by decide +kernel
theorem dX8_tryCommands_1 : decode cX8_tryCommands 1 = .ok (.getfield 16, 3) := by decide +kernel
theorem dX8_tryCommands_4 : decode cX8_tryCommands 4 = .ok (.aload_n 0, 1) := by decide +kernel
theorem dX8_tryCommands_5 : decode cX8_tryCommands 5 = .ok (.getfield 10, 3) := by decide +kernel
theorem dX8_tryCommands_8 : decode cX8_tryCommands 8 = .ok (.invokevirtual 344, 3) := by decide +kernel
theorem dX8_tryCommands_11 : decode cX8_tryCommands 11 = .ok (.aload_n 0, 1) := by decide +kernel
theorem dX8_tryCommands_12 : decode cX8_tryCommands 12 = .ok (.getfield 50, 3) := by decide +kernel
theorem dX8_tryCommands_15 : decode cX8_tryCommands 15 = .ok (.iconst 0, 1) := by decide +kernel
theorem dX8_tryCommands_16 : decode cX8_tryCommands 16 = .ok (.putfield 315, 3) := by decide +kernel
theorem dX8_tryCommands_19 : decode cX8_tryCommands 19 = .ok (.iconst 0, 1) := by decide +kernel
theorem dX8_tryCommands_20 : decode cX8_tryCommands 20 = .ok (.istore_n 2, 1) := by decide +kernel
theorem dX8_tryCommands_21 : decode cX8_tryCommands 21 = .ok (.iload_n 2, 1) := by decide +kernel
theorem dX8_tryCommands_22 : decode cX8_tryCommands 22 = .ok (.iload_n 1, 1) := by decide +kernel
theorem dX8_tryCommands_23 : decode cX8_tryCommands 23 = .ok (.if_icmp .ge 77, 3) := by decide +kernel
theorem dX8_tryCommands_26 : decode cX8_tryCommands 26 = .ok (.aload_n 0, 1) := by decide +kernel
theorem dX8_tryCommands_27 : decode cX8_tryCommands 27 = .ok (.getfield 50, 3) := by decide +kernel
theorem dX8_tryCommands_30 : decode cX8_tryCommands 30 = .ok (.invokevirtual 372, 3) := by decide +kernel
theorem dX8_tryCommands_33 : decode cX8_tryCommands 33 = .ok (.pop, 1) := by decide +kernel
theorem dX8_tryCommands_34 : decode cX8_tryCommands 34 = .ok (.aload_n 0, 1) := by decide +kernel
theorem dX8_tryCommands_35 : decode cX8_tryCommands 35 = .ok (.getfield 50, 3) := by decide +kernel
theorem dX8_tryCommands_38 : decode cX8_tryCommands 38 = .ok (.bipush 59, 2) := by decide +kernel
theorem dX8_tryCommands_40 : decode cX8_tryCommands 40 = .ok (.invokevirtual 375, 3) := by decide +kernel
theorem dX8_tryCommands_43 : decode cX8_tryCommands 43 = .ok (.pop, 1) := by decide +kernel
theorem dX8_tryCommands_44 : decode cX8_tryCommands 44 = .ok (.aload_n 0, 1) := by decide +kernel
theorem dX8_tryCommands_45 : decode cX8_tryCommands 45 = .ok (.aload_n 0, 1) := by decide +kernel
theorem dX8_tryCommands_46 : decode cX8_tryCommands 46 = .ok (.getfield 50, 3) := by decide +kernel
theorem dX8_tryCommands_49 : decode cX8_tryCommands 49 = .ok (.getfield 379, 3) := by decide +kernel
theorem dX8_tryCommands_52 : decode cX8_tryCommands 52 = .ok (.aload_n 0, 1) := by decide +kernel
theorem dX8_tryCommands_53 : decode cX8_tryCommands 53 = .ok (.getfield 50, 3) := by decide +kernel
theorem dX8_tryCommands_56 : decode cX8_tryCommands 56 = .ok (.getfield 383, 3) := by decide +kernel
theorem dX8_tryCommands_59 : decode cX8_tryCommands 59 = .ok (.iconst 0, 1) := by decide +kernel
theorem dX8_tryCommands_60 : decode cX8_tryCommands 60 = .ok (.iaload, 1) := by decide +kernel
theorem dX8_tryCommands_61 : decode cX8_tryCommands 61 = .ok (.aload_n 0, 1) := by decide +kernel
theorem dX8_tryCommands_62 : decode cX8_tryCommands 62 = .ok (.getfield 50, 3) := by decide +kernel
theorem dX8_tryCommands_65 : decode cX8_tryCommands 65 = .ok (.getfield 383, 3) := by decide +kernel
theorem dX8_tryCommands_68 : decode cX8_tryCommands 68 = .ok (.iconst 1, 1) := by decide +kernel
theorem dX8_tryCommands_69 : decode cX8_tryCommands 69 = .ok (.iaload, 1) := by decide +kernel
theorem dX8_tryCommands_70 : decode cX8_tryCommands 70 = .ok (.aload_n 0, 1) := by decide +kernel
theorem dX8_tryCommands_71 : decode cX8_tryCommands 71 = .ok (.getfield 50, 3) := by decide +kernel
theorem dX8_tryCommands_74 : decode cX8_tryCommands 74 = .ok (.getfield 383, 3) := by decide +kernel
theorem dX8_tryCommands_77 : decode cX8_tryCommands 77 = .ok (.iconst 2, 1) := by decide +kernel
theorem dX8_tryCommands_78 : decode cX8_tryCommands 78 = .ok (.iaload, 1) := by decide +kernel
theorem dX8_tryCommands_79 : decode cX8_tryCommands 79 = .ok (.invokevirtual 386, 3) := by decide +kernel
theorem dX8_tryCommands_82 : decode cX8_tryCommands 82 = .ok (.aload_n 0, 1) := by decide +kernel
theorem dX8_tryCommands_83 : decode cX8_tryCommands 83 = .ok (.getfield 36, 3) := by decide +kernel
theorem dX8_tryCommands_86 : decode cX8_tryCommands 86 = .ok (.getfield 324, 3) := by decide +kernel
theorem dX8_tryCommands_89 : decode cX8_tryCommands 89 = .ok (.ifCond .eq 5, 3) := by decide +kernel
theorem dX8_tryCommands_92 : decode cX8_tryCommands 92 = .ok (.iload_n 2, 1) := by decide +kernel
theorem dX8_tryCommands_93 : decode cX8_tryCommands 93 = .ok (.ireturn, 1) := by decide +kernel
theorem dX8_tryCommands_94 : decode cX8_tryCommands 94 = .ok (.iinc 2 1, 3) := by decide +kernel
theorem dX8_tryCommands_97 : decode cX8_tryCommands 97 = .ok (.goto (-76), 3) := by decide +kernel
theorem dX8_tryCommands_100 : decode cX8_tryCommands 100 = .ok (.iconst (-1), 1) := by decide +kernel
theorem dX8_tryCommands_101 : decode cX8_tryCommands 101 = .ok (.ireturn, 1) := by decide +kernel
theorem dX8_tryCommand_0 : decode cX8_tryCommand 0 = .ok (.getstatic 390, 3) := by decide +kernel
theorem dX8_tryCommand_3 : decode cX8_tryCommand 3 = .ok (.aload_n 1, 1) := by decide +kernel
theorem dX8_tryCommand_4 : decode cX8_tryCommand 4 = .ok (.invokevirtual 395, 3) := by decide +kernel
theorem dX8_tryCommand_7 : decode cX8_tryCommand 7 = .ok (.iaload, 1) := by decide +kernel
theorem dX8_tryCommand_8 : decode cX8_tryCommand 8 = .ok (.tableswitch 226 1 10 #[56, 77, 98, 113, 129, 147, 162, 178, 196, 214], 56) := by decide +kernel
theorem dX8_tryCommand_64 : decode cX8_tryCommand 64 = .ok (.aload_n 0, 1) := by decide +kernel
theorem dX8_tryCommand_65 : decode cX8_tryCommand 65 = .ok (.getfield 16, 3) := by decide +kernel
theorem dX8_tryCommand_68 : decode cX8_tryCommand 68 = .ok (.getfield 77, 3) := by decide +kernel
theorem dX8_tryCommand_71 : decode cX8_tryCommand 71 = .ok (.iload_n 2, 1) := by decide +kernel
theorem dX8_tryCommand_72 : decode cX8_tryCommand 72 = .ok (.iload_n 3, 1) := by decide +kernel
theorem dX8_tryCommand_73 : decode cX8_tryCommand 73 = .ok (.iload 4, 2) := by decide +kernel
theorem dX8_tryCommand_75 : decode cX8_tryCommand 75 = .ok (.aload_n 0, 1) := by decide +kernel
theorem dX8_tryCommand_76 : decode cX8_tryCommand 76 = .ok (.getfield 36, 3) := by decide +kernel
theorem dX8_tryCommand_79 : decode cX8_tryCommand 79 = .ok (.invokevirtual 81, 3) := by decide +kernel
theorem dX8_tryCommand_82 : decode cX8_tryCommand 82 = .ok (.goto 152, 3) := by decide +kernel
theorem dX8_tryCommand_85 : decode cX8_tryCommand 85 = .ok (.aload_n 0, 1) := by decide +kernel
theorem dX8_tryCommand_86 : decode cX8_tryCommand 86 = .ok (.getfield 16, 3) := by decide +kernel
theorem dX8_tryCommand_89 : decode cX8_tryCommand 89 = .ok (.getfield 77, 3) := by decide +kernel
theorem dX8_tryCommand_92 : decode cX8_tryCommand 92 = .ok (.iload_n 2, 1) := by decide +kernel
theorem dX8_tryCommand_93 : decode cX8_tryCommand 93 = .ok (.iload_n 3, 1) := by decide +kernel
theorem dX8_tryCommand_94 : decode cX8_tryCommand 94 = .ok (.iload 4, 2) := by decide +kernel
theorem dX8_tryCommand_96 : decode cX8_tryCommand 96 = .ok (.aload_n 0, 1) := by decide +kernel
theorem dX8_tryCommand_97 : decode cX8_tryCommand 97 = .ok (.getfield 36, 3) := by decide +kernel
theorem dX8_tryCommand_100 : decode cX8_tryCommand 100 = .ok (.invokevirtual 95, 3) := by decide +kernel
theorem dX8_tryCommand_103 : decode cX8_tryCommand 103 = .ok (.goto 131, 3) := by decide +kernel
theorem dX8_tryCommand_106 : decode cX8_tryCommand 106 = .ok (.aload_n 0, 1) := by decide +kernel
theorem dX8_tryCommand_107 : decode cX8_tryCommand 107 = .ok (.getfield 16, 3) := by decide +kernel
theorem dX8_tryCommand_110 : decode cX8_tryCommand 110 = .ok (.iload_n 2, 1) := by decide +kernel
theorem dX8_tryCommand_111 : decode cX8_tryCommand 111 = .ok (.aload_n 0, 1) := by decide +kernel
theorem dX8_tryCommand_112 : decode cX8_tryCommand 112 = .ok (.getfield 36, 3) := by decide +kernel
theorem dX8_tryCommand_115 : decode cX8_tryCommand 115 = .ok (.invokevirtual 164, 3) := by decide +kernel
theorem dX8_tryCommand_118 : decode cX8_tryCommand 118 = .ok (.goto 116, 3) := by decide +kernel
theorem dX8_tryCommand_121 : decode cX8_tryCommand 121 = .ok (.aload_n 0, 1) := by decide +kernel
theorem dX8_tryCommand_122 : decode cX8_tryCommand 122 = .ok (.getfield 16, 3) := by decide +kernel
theorem dX8_tryCommand_125 : decode cX8_tryCommand 125 = .ok (.iload_n 2, 1) := by decide +kernel
theorem dX8_tryCommand_126 : decode cX8_tryCommand 126 = .ok (.iload_n 3, 1) := by decide +kernel
theorem dX8_tryCommand_127 : decode cX8_tryCommand 127 = .ok (.aload_n 0, 1) := by decide +kernel
theorem dX8_tryCommand_128 : decode cX8_tryCommand 128 = .ok (.getfield 36, 3) := by decide +kernel
theorem dX8_tryCommand_131 : decode cX8_tryCommand 131 = .ok (.invokevirtual 167, 3) := by decide +kernel
theorem dX8_tryCommand_134 : decode cX8_tryCommand 134 = .ok (.goto 100, 3) := by decide +kernel
theorem dX8_tryCommand_137 : decode cX8_tryCommand 137 = .ok (.aload_n 0, 1) := by decide +kernel
theorem dX8_tryCommand_138 : decode cX8_tryCommand 138 = .ok (.getfield 16, 3) := by decide +kernel
theorem dX8_tryCommand_141 : decode cX8_tryCommand 141 = .ok (.iload_n 2, 1) := by decide +kernel
theorem dX8_tryCommand_142 : decode cX8_tryCommand 142 = .ok (.iload_n 3, 1) := by decide +kernel
theorem dX8_tryCommand_143 : decode cX8_tryCommand 143 = .ok (.iload 4, 2) := by decide +kernel
theorem dX8_tryCommand_145 : decode cX8_tryCommand 145 = .ok (.aload_n 0, 1) := by decide +kernel
theorem dX8_tryCommand_146 : decode cX8_tryCommand 146 = .ok (.getfield 36, 3) := by decide +kernel
theorem dX8_tryCommand_149 : decode cX8_tryCommand 149 = .ok (.invokevirtual 194, 3) := by decide +kernel
theorem dX8_tryCommand_152 : decode cX8_tryCommand 152 = .ok (.goto 82, 3) := by decide +kernel
theorem dX8_tryCommand_155 : decode cX8_tryCommand 155 = .ok (.aload_n 0, 1) := by decide +kernel
theorem dX8_tryCommand_156 : decode cX8_tryCommand 156 = .ok (.getfield 16, 3) := by decide +kernel
theorem dX8_tryCommand_159 : decode cX8_tryCommand 159 = .ok (.iload_n 2, 1) := by decide +kernel
theorem dX8_tryCommand_160 : decode cX8_tryCommand 160 = .ok (.aload_n 0, 1) := by decide +kernel
theorem dX8_tryCommand_161 : decode cX8_tryCommand 161 = .ok (.getfield 36, 3) := by decide +kernel
theorem dX8_tryCommand_164 : decode cX8_tryCommand 164 = .ok (.invokevirtual 197, 3) := by decide +kernel
theorem dX8_tryCommand_167 : decode cX8_tryCommand 167 = .ok (.goto 67, 3) := by decide +kernel
theorem dX8_tryCommand_170 : decode cX8_tryCommand 170 = .ok (.aload_n 0, 1) := by decide +kernel
theorem dX8_tryCommand_171 : decode cX8_tryCommand 171 = .ok (.getfield 16, 3) := by decide +kernel
theorem dX8_tryCommand_174 : decode cX8_tryCommand 174 = .ok (.iload_n 2, 1) := by decide +kernel
theorem dX8_tryCommand_175 : decode cX8_tryCommand 175 = .ok (.iload_n 3, 1) := by decide +kernel
theorem dX8_tryCommand_176 : decode cX8_tryCommand 176 = .ok (.aload_n 0, 1) := by decide +kernel
theorem dX8_tryCommand_177 : decode cX8_tryCommand 177 = .ok (.getfield 36, 3) := by decide +kernel
theorem dX8_tryCommand_180 : decode cX8_tryCommand 180 = .ok (.invokevirtual 200, 3) := by decide +kernel
theorem dX8_tryCommand_183 : decode cX8_tryCommand 183 = .ok (.goto 51, 3) := by decide +kernel
theorem dX8_tryCommand_186 : decode cX8_tryCommand 186 = .ok (.aload_n 0, 1) := by decide +kernel
theorem dX8_tryCommand_187 : decode cX8_tryCommand 187 = .ok (.getfield 16, 3) := by decide +kernel
theorem dX8_tryCommand_190 : decode cX8_tryCommand 190 = .ok (.getfield 77, 3) := by decide +kernel
theorem dX8_tryCommand_193 : decode cX8_tryCommand 193 = .ok (.iload_n 2, 1) := by decide +kernel
theorem dX8_tryCommand_194 : decode cX8_tryCommand 194 = .ok (.aload_n 0, 1) := by decide +kernel
theorem dX8_tryCommand_195 : decode cX8_tryCommand 195 = .ok (.getfield 36, 3) := by decide +kernel
theorem dX8_tryCommand_198 : decode cX8_tryCommand 198 = .ok (.invokevirtual 101, 3) := by decide +kernel
theorem dX8_tryCommand_201 : decode cX8_tryCommand 201 = .ok (.goto 33, 3) := by decide +kernel
theorem dX8_tryCommand_204 : decode cX8_tryCommand 204 = .ok (.aload_n 0, 1) := by decide +kernel
theorem dX8_tryCommand_205 : decode cX8_tryCommand 205 = .ok (.getfield 16, 3) := by decide +kernel
theorem dX8_tryCommand_208 : decode cX8_tryCommand 208 = .ok (.getfield 77, 3) := by decide +kernel
theorem dX8_tryCommand_211 : decode cX8_tryCommand 211 = .ok (.iload_n 2, 1) := by decide +kernel
theorem dX8_tryCommand_212 : decode cX8_tryCommand 212 = .ok (.aload_n 0, 1) := by decide +kernel
theorem dX8_tryCommand_213 : decode cX8_tryCommand 213 = .ok (.getfield 36, 3) := by decide +kernel
theorem dX8_tryCommand_216 : decode cX8_tryCommand 216 = .ok (.invokevirtual 105, 3) := by decide +kernel
theorem dX8_tryCommand_219 : decode cX8_tryCommand 219 = .ok (.goto 15, 3) := by decide +kernel
theorem dX8_tryCommand_222 : decode cX8_tryCommand 222 = .ok (.aload_n 0, 1) := by decide +kernel
theorem dX8_tryCommand_223 : decode cX8_tryCommand 223 = .ok (.getfield 16, 3) := by decide +kernel
theorem dX8_tryCommand_226 : decode cX8_tryCommand 226 = .ok (.iload_n 2, 1) := by decide +kernel
theorem dX8_tryCommand_227 : decode cX8_tryCommand 227 = .ok (.aload_n 0, 1) := by decide +kernel
theorem dX8_tryCommand_228 : decode cX8_tryCommand 228 = .ok (.getfield 36, 3) := by decide +kernel
theorem dX8_tryCommand_231 : decode cX8_tryCommand 231 = .ok (.invokevirtual 221, 3) := by decide +kernel
theorem dX8_tryCommand_234 : decode cX8_tryCommand 234 = .ok (.return_, 1) := by decide +kernel
theorem dX8_incomeOnCopy_0 : decode cX8_incomeOnCopy 0 = .ok (.aload_n 0, 1) := by decide +kernel
theorem dX8_incomeOnCopy_1 : decode cX8_incomeOnCopy 1 = .ok (.getfield 16, 3) := by decide +kernel
theorem dX8_incomeOnCopy_4 : decode cX8_incomeOnCopy 4 = .ok (.aload_n 0, 1) := by decide +kernel
theorem dX8_incomeOnCopy_5 : decode cX8_incomeOnCopy 5 = .ok (.getfield 10, 3) := by decide +kernel
theorem dX8_incomeOnCopy_8 : decode cX8_incomeOnCopy 8 = .ok (.invokevirtual 344, 3) := by decide +kernel
theorem dX8_incomeOnCopy_11 : decode cX8_incomeOnCopy 11 = .ok (.aload_n 0, 1) := by decide +kernel
theorem dX8_incomeOnCopy_12 : decode cX8_incomeOnCopy 12 = .ok (.getfield 16, 3) := by decide +kernel
theorem dX8_incomeOnCopy_15 : decode cX8_incomeOnCopy 15 = .ok (.iload_n 1, 1) := by decide +kernel
theorem dX8_incomeOnCopy_16 : decode cX8_incomeOnCopy 16 = .ok (.aload_n 0, 1) := by decide +kernel
theorem dX8_incomeOnCopy_17 : decode cX8_incomeOnCopy 17 = .ok (.getfield 36, 3) := by decide +kernel
theorem dX8_incomeOnCopy_20 : decode cX8_incomeOnCopy 20 = .ok (.invokevirtual 221, 3) := by decide +kernel
theorem dX8_incomeOnCopy_23 : decode cX8_incomeOnCopy 23 = .ok (.aload_n 0, 1) := by decide +kernel
theorem dX8_incomeOnCopy_24 : decode cX8_incomeOnCopy 24 = .ok (.getfield 16, 3) := by decide +kernel
theorem dX8_incomeOnCopy_27 : decode cX8_incomeOnCopy 27 = .ok (.getfield 236, 3) := by decide +kernel
theorem dX8_incomeOnCopy_30 : decode cX8_incomeOnCopy 30 = .ok (.aload_n 0, 1) := by decide +kernel
theorem dX8_incomeOnCopy_31 : decode cX8_incomeOnCopy 31 = .ok (.getfield 10, 3) := by decide +kernel
theorem dX8_incomeOnCopy_34 : decode cX8_incomeOnCopy 34 = .ok (.getfield 236, 3) := by decide +kernel
theorem dX8_incomeOnCopy_37 : decode cX8_incomeOnCopy 37 = .ok (.isub, 1) := by decide +kernel
theorem dX8_incomeOnCopy_38 : decode cX8_incomeOnCopy 38 = .ok (.ireturn, 1) := by decide +kernel
theorem dX8_incomesAgree_0 : decode cX8_incomesAgree 0 = .ok (.aload_n 0, 1) := by decide +kernel
theorem dX8_incomesAgree_1 : decode cX8_incomesAgree 1 = .ok (.iload_n 1, 1) := by decide +kernel
theorem dX8_incomesAgree_2 : decode cX8_incomesAgree 2 = .ok (.invokevirtual 230, 3) := by decide +kernel
theorem dX8_incomesAgree_5 : decode cX8_incomesAgree 5 = .ok (.aload_n 0, 1) := by decide +kernel
theorem dX8_incomesAgree_6 : decode cX8_incomesAgree 6 = .ok (.getfield 10, 3) := by decide +kernel
theorem dX8_incomesAgree_9 : decode cX8_incomesAgree 9 = .ok (.iload_n 1, 1) := by decide +kernel
theorem dX8_incomesAgree_10 : decode cX8_incomesAgree 10 = .ok (.invokevirtual 233, 3) := by decide +kernel
theorem dX8_incomesAgree_13 : decode cX8_incomesAgree 13 = .ok (.if_icmp .ne 7, 3) := by decide +kernel
theorem dX8_incomesAgree_16 : decode cX8_incomesAgree 16 = .ok (.iconst 1, 1) := by decide +kernel
theorem dX8_incomesAgree_17 : decode cX8_incomesAgree 17 = .ok (.goto 4, 3) := by decide +kernel
theorem dX8_incomesAgree_20 : decode cX8_incomesAgree 20 = .ok (.iconst 0, 1) := by decide +kernel
theorem dX8_incomesAgree_21 : decode cX8_incomesAgree 21 = .ok (.ireturn, 1) := by decide +kernel
theorem dX8_noisesAgree_0 : decode cX8_noisesAgree 0 = .ok (.aload_n 0, 1) := by decide +kernel
theorem dX8_noisesAgree_1 : decode cX8_noisesAgree 1 = .ok (.getfield 43, 3) := by decide +kernel
theorem dX8_noisesAgree_4 : decode cX8_noisesAgree 4 = .ok (.aload_n 0, 1) := by decide +kernel
theorem dX8_noisesAgree_5 : decode cX8_noisesAgree 5 = .ok (.getfield 10, 3) := by decide +kernel
theorem dX8_noisesAgree_8 : decode cX8_noisesAgree 8 = .ok (.getfield 77, 3) := by decide +kernel
theorem dX8_noisesAgree_11 : decode cX8_noisesAgree 11 = .ok (.invokevirtual 153, 3) := by decide +kernel
theorem dX8_noisesAgree_14 : decode cX8_noisesAgree 14 = .ok (.iconst 0, 1) := by decide +kernel
theorem dX8_noisesAgree_15 : decode cX8_noisesAgree 15 = .ok (.istore_n 1, 1) := by decide +kernel
theorem dX8_noisesAgree_16 : decode cX8_noisesAgree 16 = .ok (.iload_n 1, 1) := by decide +kernel
theorem dX8_noisesAgree_17 : decode cX8_noisesAgree 17 = .ok (.bipush 6, 2) := by decide +kernel
theorem dX8_noisesAgree_19 : decode cX8_noisesAgree 19 = .ok (.if_icmp .ge 54, 3) := by decide +kernel
theorem dX8_noisesAgree_22 : decode cX8_noisesAgree 22 = .ok (.iconst 0, 1) := by decide +kernel
theorem dX8_noisesAgree_23 : decode cX8_noisesAgree 23 = .ok (.istore_n 2, 1) := by decide +kernel
theorem dX8_noisesAgree_24 : decode cX8_noisesAgree 24 = .ok (.iload_n 2, 1) := by decide +kernel
theorem dX8_noisesAgree_25 : decode cX8_noisesAgree 25 = .ok (.bipush 6, 2) := by decide +kernel
theorem dX8_noisesAgree_27 : decode cX8_noisesAgree 27 = .ok (.if_icmp .ge 40, 3) := by decide +kernel
theorem dX8_noisesAgree_30 : decode cX8_noisesAgree 30 = .ok (.aload_n 0, 1) := by decide +kernel
theorem dX8_noisesAgree_31 : decode cX8_noisesAgree 31 = .ok (.getfield 10, 3) := by decide +kernel
theorem dX8_noisesAgree_34 : decode cX8_noisesAgree 34 = .ok (.getfield 77, 3) := by decide +kernel
theorem dX8_noisesAgree_37 : decode cX8_noisesAgree 37 = .ok (.iload_n 1, 1) := by decide +kernel
theorem dX8_noisesAgree_38 : decode cX8_noisesAgree 38 = .ok (.iload_n 2, 1) := by decide +kernel
theorem dX8_noisesAgree_39 : decode cX8_noisesAgree 39 = .ok (.invokevirtual 149, 3) := by decide +kernel
theorem dX8_noisesAgree_42 : decode cX8_noisesAgree 42 = .ok (.aload_n 0, 1) := by decide +kernel
theorem dX8_noisesAgree_43 : decode cX8_noisesAgree 43 = .ok (.getfield 43, 3) := by decide +kernel
theorem dX8_noisesAgree_46 : decode cX8_noisesAgree 46 = .ok (.getfield 157, 3) := by decide +kernel
theorem dX8_noisesAgree_49 : decode cX8_noisesAgree 49 = .ok (.iload_n 1, 1) := by decide +kernel
theorem dX8_noisesAgree_50 : decode cX8_noisesAgree 50 = .ok (.bipush 6, 2) := by decide +kernel
theorem dX8_noisesAgree_52 : decode cX8_noisesAgree 52 = .ok (.imul, 1) := by decide +kernel
theorem dX8_noisesAgree_53 : decode cX8_noisesAgree 53 = .ok (.iload_n 2, 1) := by decide +kernel
theorem dX8_noisesAgree_54 : decode cX8_noisesAgree 54 = .ok (.iadd, 1) := by decide +kernel
theorem dX8_noisesAgree_55 : decode cX8_noisesAgree 55 = .ok (.iaload, 1) := by decide +kernel
theorem dX8_noisesAgree_56 : decode cX8_noisesAgree 56 = .ok (.if_icmp .eq 5, 3) := by decide +kernel
theorem dX8_noisesAgree_59 : decode cX8_noisesAgree 59 = .ok (.iconst 0, 1) := by decide +kernel
theorem dX8_noisesAgree_60 : decode cX8_noisesAgree 60 = .ok (.ireturn, 1) := by decide +kernel
theorem dX8_noisesAgree_61 : decode cX8_noisesAgree 61 = .ok (.iinc 2 1, 3) := by decide +kernel
theorem dX8_noisesAgree_64 : decode cX8_noisesAgree 64 = .ok (.goto (-40), 3) := by decide +kernel
theorem dX8_noisesAgree_67 : decode cX8_noisesAgree 67 = .ok (.iinc 1 1, 3) := by decide +kernel
theorem dX8_noisesAgree_70 : decode cX8_noisesAgree 70 = .ok (.goto (-54), 3) := by decide +kernel
theorem dX8_noisesAgree_73 : decode cX8_noisesAgree 73 = .ok (.iconst 1, 1) := by decide +kernel
theorem dX8_noisesAgree_74 : decode cX8_noisesAgree 74 = .ok (.ireturn, 1) := by decide +kernel
