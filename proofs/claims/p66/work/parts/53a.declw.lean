/-! decode rows: the law's own methods -/
theorem dL_cell_0 : decode cL_cell 0 = .ok (.iload_n 1, 1) := by decide +kernel
theorem dL_cell_1 : decode cL_cell 1 = .ok (.aload_n 0, 1) := by decide +kernel
theorem dL_cell_2 : decode cL_cell 2 = .ok (.arraylength, 1) := by decide +kernel
theorem dL_cell_3 : decode cL_cell 3 = .ok (.if_icmp .ge 9, 3) := by decide +kernel
theorem dL_cell_6 : decode cL_cell 6 = .ok (.aload_n 0, 1) := by decide +kernel
theorem dL_cell_7 : decode cL_cell 7 = .ok (.iload_n 1, 1) := by decide +kernel
theorem dL_cell_8 : decode cL_cell 8 = .ok (.iaload, 1) := by decide +kernel
theorem dL_cell_9 : decode cL_cell 9 = .ok (.goto 7, 3) := by decide +kernel
theorem dL_cell_12 : decode cL_cell 12 = .ok (.ldc 7, 2) := by decide +kernel
theorem dL_cell_14 : decode cL_cell 14 = .ok (.iload_n 1, 1) := by decide +kernel
theorem dL_cell_15 : decode cL_cell 15 = .ok (.imul, 1) := by decide +kernel
theorem dL_cell_16 : decode cL_cell 16 = .ok (.ireturn, 1) := by decide +kernel
theorem dL_pick_0 : decode cL_pick 0 = .ok (.aload_n 0, 1) := by decide +kernel
theorem dL_pick_1 : decode cL_pick 1 = .ok (.iload_n 1, 1) := by decide +kernel
theorem dL_pick_2 : decode cL_pick 2 = .ok (.invokestatic 8, 3) := by decide +kernel
theorem dL_pick_5 : decode cL_pick 5 = .ok (.iconst 1, 1) := by decide +kernel
theorem dL_pick_6 : decode cL_pick 6 = .ok (.iushr, 1) := by decide +kernel
theorem dL_pick_7 : decode cL_pick 7 = .ok (.iload_n 2, 1) := by decide +kernel
theorem dL_pick_8 : decode cL_pick 8 = .ok (.irem, 1) := by decide +kernel
theorem dL_pick_9 : decode cL_pick 9 = .ok (.ireturn, 1) := by decide +kernel
theorem dL_addBench_0 : decode cL_addBench 0 = .ok (.aload_n 0, 1) := by decide +kernel
theorem dL_addBench_1 : decode cL_addBench 1 = .ok (.iload_n 1, 1) := by decide +kernel
theorem dL_addBench_2 : decode cL_addBench 2 = .ok (.iload_n 2, 1) := by decide +kernel
theorem dL_addBench_3 : decode cL_addBench 3 = .ok (.iload_n 3, 1) := by decide +kernel
theorem dL_addBench_4 : decode cL_addBench 4 = .ok (.invokevirtual 14, 3) := by decide +kernel
theorem dL_addBench_7 : decode cL_addBench 7 = .ok (.ireturn, 1) := by decide +kernel
theorem dL_addBench_8 : decode cL_addBench 8 = .ok (.astore 4, 2) := by decide +kernel
theorem dL_addBench_10 : decode cL_addBench 10 = .ok (.bipush (-77), 2) := by decide +kernel
theorem dL_addBench_12 : decode cL_addBench 12 = .ok (.ireturn, 1) := by decide +kernel
theorem dL_addBench_13 : decode cL_addBench 13 = .ok (.astore 4, 2) := by decide +kernel
theorem dL_addBench_15 : decode cL_addBench 15 = .ok (.bipush (-78), 2) := by decide +kernel
theorem dL_addBench_17 : decode cL_addBench 17 = .ok (.ireturn, 1) := by decide +kernel
theorem dL_addBench_18 : decode cL_addBench 18 = .ok (.astore 4, 2) := by decide +kernel
theorem dL_addBench_20 : decode cL_addBench 20 = .ok (.bipush (-76), 2) := by decide +kernel
theorem dL_addBench_22 : decode cL_addBench 22 = .ok (.ireturn, 1) := by decide +kernel
theorem dL_setRent_0 : decode cL_setRent 0 = .ok (.aload_n 0, 1) := by decide +kernel
theorem dL_setRent_1 : decode cL_setRent 1 = .ok (.iload_n 1, 1) := by decide +kernel
theorem dL_setRent_2 : decode cL_setRent 2 = .ok (.iload_n 2, 1) := by decide +kernel
theorem dL_setRent_3 : decode cL_setRent 3 = .ok (.invokevirtual 26, 3) := by decide +kernel
theorem dL_setRent_6 : decode cL_setRent 6 = .ok (.ireturn, 1) := by decide +kernel
theorem dL_setRent_7 : decode cL_setRent 7 = .ok (.astore_n 3, 1) := by decide +kernel
theorem dL_setRent_8 : decode cL_setRent 8 = .ok (.bipush (-77), 2) := by decide +kernel
theorem dL_setRent_10 : decode cL_setRent 10 = .ok (.ireturn, 1) := by decide +kernel
theorem dL_setRent_11 : decode cL_setRent 11 = .ok (.astore_n 3, 1) := by decide +kernel
theorem dL_setRent_12 : decode cL_setRent 12 = .ok (.bipush (-78), 2) := by decide +kernel
theorem dL_setRent_14 : decode cL_setRent 14 = .ok (.ireturn, 1) := by decide +kernel
theorem dL_addFountain_0 : decode cL_addFountain 0 = .ok (.aload_n 0, 1) := by decide +kernel
theorem dL_addFountain_1 : decode cL_addFountain 1 = .ok (.iload_n 1, 1) := by decide +kernel
theorem dL_addFountain_2 : decode cL_addFountain 2 = .ok (.iload_n 2, 1) := by decide +kernel
theorem dL_addFountain_3 : decode cL_addFountain 3 = .ok (.iload_n 3, 1) := by decide +kernel
theorem dL_addFountain_4 : decode cL_addFountain 4 = .ok (.invokevirtual 30, 3) := by decide +kernel
theorem dL_addFountain_7 : decode cL_addFountain 7 = .ok (.ireturn, 1) := by decide +kernel
theorem dL_addFountain_8 : decode cL_addFountain 8 = .ok (.astore 4, 2) := by decide +kernel
theorem dL_addFountain_10 : decode cL_addFountain 10 = .ok (.bipush (-77), 2) := by decide +kernel
theorem dL_addFountain_12 : decode cL_addFountain 12 = .ok (.ireturn, 1) := by decide +kernel
theorem dL_addFountain_13 : decode cL_addFountain 13 = .ok (.astore 4, 2) := by decide +kernel
theorem dL_addFountain_15 : decode cL_addFountain 15 = .ok (.bipush (-78), 2) := by decide +kernel
theorem dL_addFountain_17 : decode cL_addFountain 17 = .ok (.ireturn, 1) := by decide +kernel
theorem dL_addFountain_18 : decode cL_addFountain 18 = .ok (.astore 4, 2) := by decide +kernel
theorem dL_addFountain_20 : decode cL_addFountain 20 = .ok (.bipush (-76), 2) := by decide +kernel
theorem dL_addFountain_22 : decode cL_addFountain 22 = .ok (.ireturn, 1) := by decide +kernel
theorem dL_setLoudness_0 : decode cL_setLoudness 0 = .ok (.aload_n 0, 1) := by decide +kernel
theorem dL_setLoudness_1 : decode cL_setLoudness 1 = .ok (.iload_n 1, 1) := by decide +kernel
theorem dL_setLoudness_2 : decode cL_setLoudness 2 = .ok (.iload_n 2, 1) := by decide +kernel
theorem dL_setLoudness_3 : decode cL_setLoudness 3 = .ok (.invokevirtual 33, 3) := by decide +kernel
theorem dL_setLoudness_6 : decode cL_setLoudness 6 = .ok (.ireturn, 1) := by decide +kernel
theorem dL_setLoudness_7 : decode cL_setLoudness 7 = .ok (.astore_n 3, 1) := by decide +kernel
theorem dL_setLoudness_8 : decode cL_setLoudness 8 = .ok (.bipush (-77), 2) := by decide +kernel
theorem dL_setLoudness_10 : decode cL_setLoudness 10 = .ok (.ireturn, 1) := by decide +kernel
theorem dL_setLoudness_11 : decode cL_setLoudness 11 = .ok (.astore_n 3, 1) := by decide +kernel
theorem dL_setLoudness_12 : decode cL_setLoudness 12 = .ok (.bipush (-78), 2) := by decide +kernel
theorem dL_setLoudness_14 : decode cL_setLoudness 14 = .ok (.ireturn, 1) := by decide +kernel
theorem dL_switchFountain_0 : decode cL_switchFountain 0 = .ok (.aload_n 0, 1) := by decide +kernel
theorem dL_switchFountain_1 : decode cL_switchFountain 1 = .ok (.iload_n 1, 1) := by decide +kernel
theorem dL_switchFountain_2 : decode cL_switchFountain 2 = .ok (.invokevirtual 36, 3) := by decide +kernel
theorem dL_switchFountain_5 : decode cL_switchFountain 5 = .ok (.ifCond .eq 7, 3) := by decide +kernel
theorem dL_switchFountain_8 : decode cL_switchFountain 8 = .ok (.iconst 1, 1) := by decide +kernel
theorem dL_switchFountain_9 : decode cL_switchFountain 9 = .ok (.goto 4, 3) := by decide +kernel
theorem dL_switchFountain_12 : decode cL_switchFountain 12 = .ok (.iconst 0, 1) := by decide +kernel
theorem dL_switchFountain_13 : decode cL_switchFountain 13 = .ok (.ireturn, 1) := by decide +kernel
theorem dL_switchFountain_14 : decode cL_switchFountain 14 = .ok (.astore_n 2, 1) := by decide +kernel
theorem dL_switchFountain_15 : decode cL_switchFountain 15 = .ok (.bipush (-77), 2) := by decide +kernel
theorem dL_switchFountain_17 : decode cL_switchFountain 17 = .ok (.ireturn, 1) := by decide +kernel
theorem dL_setNoiseLimit_0 : decode cL_setNoiseLimit 0 = .ok (.aload_n 0, 1) := by decide +kernel
theorem dL_setNoiseLimit_1 : decode cL_setNoiseLimit 1 = .ok (.iload_n 1, 1) := by decide +kernel
theorem dL_setNoiseLimit_2 : decode cL_setNoiseLimit 2 = .ok (.invokevirtual 40, 3) := by decide +kernel
theorem dL_setNoiseLimit_5 : decode cL_setNoiseLimit 5 = .ok (.ireturn, 1) := by decide +kernel
theorem dL_setNoiseLimit_6 : decode cL_setNoiseLimit 6 = .ok (.astore_n 2, 1) := by decide +kernel
theorem dL_setNoiseLimit_7 : decode cL_setNoiseLimit 7 = .ok (.bipush (-78), 2) := by decide +kernel
theorem dL_setNoiseLimit_9 : decode cL_setNoiseLimit 9 = .ok (.ireturn, 1) := by decide +kernel
theorem dL_rowOf_0 : decode cL_rowOf 0 = .ok (.aload_n 0, 1) := by decide +kernel
theorem dL_rowOf_1 : decode cL_rowOf 1 = .ok (.iload_n 1, 1) := by decide +kernel
theorem dL_rowOf_2 : decode cL_rowOf 2 = .ok (.invokevirtual 44, 3) := by decide +kernel
theorem dL_rowOf_5 : decode cL_rowOf 5 = .ok (.ireturn, 1) := by decide +kernel
theorem dL_rowOf_6 : decode cL_rowOf 6 = .ok (.astore_n 2, 1) := by decide +kernel
theorem dL_rowOf_7 : decode cL_rowOf 7 = .ok (.bipush (-77), 2) := by decide +kernel
theorem dL_rowOf_9 : decode cL_rowOf 9 = .ok (.ireturn, 1) := by decide +kernel
theorem dL_columnOf_0 : decode cL_columnOf 0 = .ok (.aload_n 0, 1) := by decide +kernel
theorem dL_columnOf_1 : decode cL_columnOf 1 = .ok (.iload_n 1, 1) := by decide +kernel
theorem dL_columnOf_2 : decode cL_columnOf 2 = .ok (.invokevirtual 47, 3) := by decide +kernel
theorem dL_columnOf_5 : decode cL_columnOf 5 = .ok (.ireturn, 1) := by decide +kernel
theorem dL_columnOf_6 : decode cL_columnOf 6 = .ok (.astore_n 2, 1) := by decide +kernel
theorem dL_columnOf_7 : decode cL_columnOf 7 = .ok (.bipush (-77), 2) := by decide +kernel
theorem dL_columnOf_9 : decode cL_columnOf 9 = .ok (.ireturn, 1) := by decide +kernel
theorem dL_baseRent_0 : decode cL_baseRent 0 = .ok (.aload_n 0, 1) := by decide +kernel
theorem dL_baseRent_1 : decode cL_baseRent 1 = .ok (.iload_n 1, 1) := by decide +kernel
theorem dL_baseRent_2 : decode cL_baseRent 2 = .ok (.invokevirtual 50, 3) := by decide +kernel
theorem dL_baseRent_5 : decode cL_baseRent 5 = .ok (.ireturn, 1) := by decide +kernel
theorem dL_baseRent_6 : decode cL_baseRent 6 = .ok (.astore_n 2, 1) := by decide +kernel
theorem dL_baseRent_7 : decode cL_baseRent 7 = .ok (.bipush (-77), 2) := by decide +kernel
theorem dL_baseRent_9 : decode cL_baseRent 9 = .ok (.ireturn, 1) := by decide +kernel
theorem dL_rentOf_0 : decode cL_rentOf 0 = .ok (.aload_n 0, 1) := by decide +kernel
theorem dL_rentOf_1 : decode cL_rentOf 1 = .ok (.iload_n 1, 1) := by decide +kernel
theorem dL_rentOf_2 : decode cL_rentOf 2 = .ok (.invokevirtual 53, 3) := by decide +kernel
theorem dL_rentOf_5 : decode cL_rentOf 5 = .ok (.ireturn, 1) := by decide +kernel
theorem dL_rentOf_6 : decode cL_rentOf 6 = .ok (.astore_n 2, 1) := by decide +kernel
theorem dL_rentOf_7 : decode cL_rentOf 7 = .ok (.bipush (-77), 2) := by decide +kernel
theorem dL_rentOf_9 : decode cL_rentOf 9 = .ok (.ireturn, 1) := by decide +kernel
theorem dL_loudnessOf_0 : decode cL_loudnessOf 0 = .ok (.aload_n 0, 1) := by decide +kernel
theorem dL_loudnessOf_1 : decode cL_loudnessOf 1 = .ok (.iload_n 1, 1) := by decide +kernel
theorem dL_loudnessOf_2 : decode cL_loudnessOf 2 = .ok (.invokevirtual 56, 3) := by decide +kernel
theorem dL_loudnessOf_5 : decode cL_loudnessOf 5 = .ok (.ireturn, 1) := by decide +kernel
theorem dL_loudnessOf_6 : decode cL_loudnessOf 6 = .ok (.astore_n 2, 1) := by decide +kernel
theorem dL_loudnessOf_7 : decode cL_loudnessOf 7 = .ok (.bipush (-77), 2) := by decide +kernel
theorem dL_loudnessOf_9 : decode cL_loudnessOf 9 = .ok (.ireturn, 1) := by decide +kernel
theorem dL_isRunning_0 : decode cL_isRunning 0 = .ok (.aload_n 0, 1) := by decide +kernel
theorem dL_isRunning_1 : decode cL_isRunning 1 = .ok (.iload_n 1, 1) := by decide +kernel
theorem dL_isRunning_2 : decode cL_isRunning 2 = .ok (.invokevirtual 59, 3) := by decide +kernel
theorem dL_isRunning_5 : decode cL_isRunning 5 = .ok (.ifCond .eq 7, 3) := by decide +kernel
theorem dL_isRunning_8 : decode cL_isRunning 8 = .ok (.iconst 1, 1) := by decide +kernel
theorem dL_isRunning_9 : decode cL_isRunning 9 = .ok (.goto 4, 3) := by decide +kernel
theorem dL_isRunning_12 : decode cL_isRunning 12 = .ok (.iconst 0, 1) := by decide +kernel
theorem dL_isRunning_13 : decode cL_isRunning 13 = .ok (.ireturn, 1) := by decide +kernel
theorem dL_isRunning_14 : decode cL_isRunning 14 = .ok (.astore_n 2, 1) := by decide +kernel
theorem dL_isRunning_15 : decode cL_isRunning 15 = .ok (.bipush (-77), 2) := by decide +kernel
theorem dL_isRunning_17 : decode cL_isRunning 17 = .ok (.ireturn, 1) := by decide +kernel
theorem dL_noiseAt_0 : decode cL_noiseAt 0 = .ok (.aload_n 0, 1) := by decide +kernel
theorem dL_noiseAt_1 : decode cL_noiseAt 1 = .ok (.iload_n 1, 1) := by decide +kernel
theorem dL_noiseAt_2 : decode cL_noiseAt 2 = .ok (.iload_n 2, 1) := by decide +kernel
theorem dL_noiseAt_3 : decode cL_noiseAt 3 = .ok (.invokevirtual 62, 3) := by decide +kernel
theorem dL_noiseAt_6 : decode cL_noiseAt 6 = .ok (.ireturn, 1) := by decide +kernel
theorem dL_noiseAt_7 : decode cL_noiseAt 7 = .ok (.astore_n 3, 1) := by decide +kernel
theorem dL_noiseAt_8 : decode cL_noiseAt 8 = .ok (.bipush (-77), 2) := by decide +kernel
theorem dL_noiseAt_10 : decode cL_noiseAt 10 = .ok (.ireturn, 1) := by decide +kernel
theorem dL_noiseBySpreading_0 : decode cL_noiseBySpreading 0 = .ok (.aload_n 0, 1) := by decide +kernel
theorem dL_noiseBySpreading_1 : decode cL_noiseBySpreading 1 = .ok (.iload_n 1, 1) := by decide +kernel
theorem dL_noiseBySpreading_2 : decode cL_noiseBySpreading 2 = .ok (.iload_n 2, 1) := by decide +kernel
theorem dL_noiseBySpreading_3 : decode cL_noiseBySpreading 3 = .ok (.invokevirtual 65, 3) := by decide +kernel
theorem dL_noiseBySpreading_6 : decode cL_noiseBySpreading 6 = .ok (.ireturn, 1) := by decide +kernel
theorem dL_noiseBySpreading_7 : decode cL_noiseBySpreading 7 = .ok (.astore_n 3, 1) := by decide +kernel
theorem dL_noiseBySpreading_8 : decode cL_noiseBySpreading 8 = .ok (.bipush (-77), 2) := by decide +kernel
theorem dL_noiseBySpreading_10 : decode cL_noiseBySpreading 10 = .ok (.ireturn, 1) := by decide +kernel
theorem dL_isQuiet_0 : decode cL_isQuiet 0 = .ok (.aload_n 0, 1) := by decide +kernel
theorem dL_isQuiet_1 : decode cL_isQuiet 1 = .ok (.iload_n 1, 1) := by decide +kernel
theorem dL_isQuiet_2 : decode cL_isQuiet 2 = .ok (.invokevirtual 68, 3) := by decide +kernel
theorem dL_isQuiet_5 : decode cL_isQuiet 5 = .ok (.ifCond .eq 7, 3) := by decide +kernel
theorem dL_isQuiet_8 : decode cL_isQuiet 8 = .ok (.iconst 1, 1) := by decide +kernel
theorem dL_isQuiet_9 : decode cL_isQuiet 9 = .ok (.goto 4, 3) := by decide +kernel
theorem dL_isQuiet_12 : decode cL_isQuiet 12 = .ok (.iconst 0, 1) := by decide +kernel
theorem dL_isQuiet_13 : decode cL_isQuiet 13 = .ok (.ireturn, 1) := by decide +kernel
theorem dL_isQuiet_14 : decode cL_isQuiet 14 = .ok (.astore_n 2, 1) := by decide +kernel
theorem dL_isQuiet_15 : decode cL_isQuiet 15 = .ok (.bipush (-77), 2) := by decide +kernel
theorem dL_isQuiet_17 : decode cL_isQuiet 17 = .ok (.ireturn, 1) := by decide +kernel
theorem dL_addTenant_0 : decode cL_addTenant 0 = .ok (.aload_n 0, 1) := by decide +kernel
theorem dL_addTenant_1 : decode cL_addTenant 1 = .ok (.iload_n 1, 1) := by decide +kernel
theorem dL_addTenant_2 : decode cL_addTenant 2 = .ok (.invokevirtual 71, 3) := by decide +kernel
theorem dL_addTenant_5 : decode cL_addTenant 5 = .ok (.ireturn, 1) := by decide +kernel
theorem dL_addTenant_6 : decode cL_addTenant 6 = .ok (.astore_n 2, 1) := by decide +kernel
theorem dL_addTenant_7 : decode cL_addTenant 7 = .ok (.bipush (-78), 2) := by decide +kernel
theorem dL_addTenant_9 : decode cL_addTenant 9 = .ok (.ireturn, 1) := by decide +kernel
theorem dL_addTenant_10 : decode cL_addTenant 10 = .ok (.astore_n 2, 1) := by decide +kernel
theorem dL_addTenant_11 : decode cL_addTenant 11 = .ok (.bipush (-76), 2) := by decide +kernel
theorem dL_addTenant_13 : decode cL_addTenant 13 = .ok (.ireturn, 1) := by decide +kernel
theorem dL_giveCoins_0 : decode cL_giveCoins 0 = .ok (.aload_n 0, 1) := by decide +kernel
theorem dL_giveCoins_1 : decode cL_giveCoins 1 = .ok (.iload_n 1, 1) := by decide +kernel
theorem dL_giveCoins_2 : decode cL_giveCoins 2 = .ok (.iload_n 2, 1) := by decide +kernel
theorem dL_giveCoins_3 : decode cL_giveCoins 3 = .ok (.invokevirtual 74, 3) := by decide +kernel
theorem dL_giveCoins_6 : decode cL_giveCoins 6 = .ok (.ireturn, 1) := by decide +kernel
theorem dL_giveCoins_7 : decode cL_giveCoins 7 = .ok (.astore_n 3, 1) := by decide +kernel
theorem dL_giveCoins_8 : decode cL_giveCoins 8 = .ok (.bipush (-77), 2) := by decide +kernel
theorem dL_giveCoins_10 : decode cL_giveCoins 10 = .ok (.ireturn, 1) := by decide +kernel
theorem dL_giveCoins_11 : decode cL_giveCoins 11 = .ok (.astore_n 3, 1) := by decide +kernel
theorem dL_giveCoins_12 : decode cL_giveCoins 12 = .ok (.bipush (-78), 2) := by decide +kernel
theorem dL_giveCoins_14 : decode cL_giveCoins 14 = .ok (.ireturn, 1) := by decide +kernel
theorem dL_coinsOf_0 : decode cL_coinsOf 0 = .ok (.aload_n 0, 1) := by decide +kernel
theorem dL_coinsOf_1 : decode cL_coinsOf 1 = .ok (.iload_n 1, 1) := by decide +kernel
theorem dL_coinsOf_2 : decode cL_coinsOf 2 = .ok (.invokevirtual 77, 3) := by decide +kernel
theorem dL_coinsOf_5 : decode cL_coinsOf 5 = .ok (.ireturn, 1) := by decide +kernel
theorem dL_coinsOf_6 : decode cL_coinsOf 6 = .ok (.astore_n 2, 1) := by decide +kernel
theorem dL_coinsOf_7 : decode cL_coinsOf 7 = .ok (.bipush (-77), 2) := by decide +kernel
theorem dL_coinsOf_9 : decode cL_coinsOf 9 = .ok (.ireturn, 1) := by decide +kernel
theorem dL_defaultsOf_0 : decode cL_defaultsOf 0 = .ok (.aload_n 0, 1) := by decide +kernel
theorem dL_defaultsOf_1 : decode cL_defaultsOf 1 = .ok (.iload_n 1, 1) := by decide +kernel
theorem dL_defaultsOf_2 : decode cL_defaultsOf 2 = .ok (.invokevirtual 80, 3) := by decide +kernel
theorem dL_defaultsOf_5 : decode cL_defaultsOf 5 = .ok (.ireturn, 1) := by decide +kernel
theorem dL_defaultsOf_6 : decode cL_defaultsOf 6 = .ok (.astore_n 2, 1) := by decide +kernel
theorem dL_defaultsOf_7 : decode cL_defaultsOf 7 = .ok (.bipush (-77), 2) := by decide +kernel
theorem dL_defaultsOf_9 : decode cL_defaultsOf 9 = .ok (.ireturn, 1) := by decide +kernel
theorem dL_benchOf_0 : decode cL_benchOf 0 = .ok (.aload_n 0, 1) := by decide +kernel
theorem dL_benchOf_1 : decode cL_benchOf 1 = .ok (.iload_n 1, 1) := by decide +kernel
theorem dL_benchOf_2 : decode cL_benchOf 2 = .ok (.invokevirtual 83, 3) := by decide +kernel
theorem dL_benchOf_5 : decode cL_benchOf 5 = .ok (.ireturn, 1) := by decide +kernel
theorem dL_benchOf_6 : decode cL_benchOf 6 = .ok (.astore_n 2, 1) := by decide +kernel
theorem dL_benchOf_7 : decode cL_benchOf 7 = .ok (.bipush (-77), 2) := by decide +kernel
theorem dL_benchOf_9 : decode cL_benchOf 9 = .ok (.ireturn, 1) := by decide +kernel
theorem dL_benchOf_10 : decode cL_benchOf 10 = .ok (.astore_n 2, 1) := by decide +kernel
theorem dL_benchOf_11 : decode cL_benchOf 11 = .ok (.bipush (-75), 2) := by decide +kernel
theorem dL_benchOf_13 : decode cL_benchOf 13 = .ok (.ireturn, 1) := by decide +kernel
theorem dL_canLease_0 : decode cL_canLease 0 = .ok (.aload_n 0, 1) := by decide +kernel
theorem dL_canLease_1 : decode cL_canLease 1 = .ok (.iload_n 1, 1) := by decide +kernel
theorem dL_canLease_2 : decode cL_canLease 2 = .ok (.iload_n 2, 1) := by decide +kernel
theorem dL_canLease_3 : decode cL_canLease 3 = .ok (.invokevirtual 88, 3) := by decide +kernel
theorem dL_canLease_6 : decode cL_canLease 6 = .ok (.ifCond .eq 7, 3) := by decide +kernel
theorem dL_canLease_9 : decode cL_canLease 9 = .ok (.iconst 1, 1) := by decide +kernel
theorem dL_canLease_10 : decode cL_canLease 10 = .ok (.goto 4, 3) := by decide +kernel
theorem dL_canLease_13 : decode cL_canLease 13 = .ok (.iconst 0, 1) := by decide +kernel
theorem dL_canLease_14 : decode cL_canLease 14 = .ok (.ireturn, 1) := by decide +kernel
theorem dL_canLease_15 : decode cL_canLease 15 = .ok (.astore_n 3, 1) := by decide +kernel
theorem dL_canLease_16 : decode cL_canLease 16 = .ok (.bipush (-77), 2) := by decide +kernel
theorem dL_canLease_18 : decode cL_canLease 18 = .ok (.ireturn, 1) := by decide +kernel
theorem dL_cheapestFor_0 : decode cL_cheapestFor 0 = .ok (.aload_n 0, 1) := by decide +kernel
theorem dL_cheapestFor_1 : decode cL_cheapestFor 1 = .ok (.iload_n 1, 1) := by decide +kernel
theorem dL_cheapestFor_2 : decode cL_cheapestFor 2 = .ok (.invokevirtual 92, 3) := by decide +kernel
theorem dL_cheapestFor_5 : decode cL_cheapestFor 5 = .ok (.ireturn, 1) := by decide +kernel
theorem dL_cheapestFor_6 : decode cL_cheapestFor 6 = .ok (.astore_n 2, 1) := by decide +kernel
theorem dL_cheapestFor_7 : decode cL_cheapestFor 7 = .ok (.bipush (-77), 2) := by decide +kernel
theorem dL_cheapestFor_9 : decode cL_cheapestFor 9 = .ok (.ireturn, 1) := by decide +kernel
theorem dL_cheapestFor_10 : decode cL_cheapestFor 10 = .ok (.astore_n 2, 1) := by decide +kernel
theorem dL_cheapestFor_11 : decode cL_cheapestFor 11 = .ok (.bipush (-75), 2) := by decide +kernel
theorem dL_cheapestFor_13 : decode cL_cheapestFor 13 = .ok (.ireturn, 1) := by decide +kernel
theorem dL_lease_0 : decode cL_lease 0 = .ok (.aload_n 0, 1) := by decide +kernel
theorem dL_lease_1 : decode cL_lease 1 = .ok (.iload_n 1, 1) := by decide +kernel
theorem dL_lease_2 : decode cL_lease 2 = .ok (.iload_n 2, 1) := by decide +kernel
theorem dL_lease_3 : decode cL_lease 3 = .ok (.iload_n 3, 1) := by decide +kernel
theorem dL_lease_4 : decode cL_lease 4 = .ok (.invokevirtual 95, 3) := by decide +kernel
theorem dL_lease_7 : decode cL_lease 7 = .ok (.ireturn, 1) := by decide +kernel
theorem dL_lease_8 : decode cL_lease 8 = .ok (.astore 4, 2) := by decide +kernel
theorem dL_lease_10 : decode cL_lease 10 = .ok (.bipush (-77), 2) := by decide +kernel
theorem dL_lease_12 : decode cL_lease 12 = .ok (.ireturn, 1) := by decide +kernel
theorem dL_lease_13 : decode cL_lease 13 = .ok (.astore 4, 2) := by decide +kernel
theorem dL_lease_15 : decode cL_lease 15 = .ok (.bipush (-78), 2) := by decide +kernel
theorem dL_lease_17 : decode cL_lease 17 = .ok (.ireturn, 1) := by decide +kernel
theorem dL_lease_18 : decode cL_lease 18 = .ok (.astore 4, 2) := by decide +kernel
theorem dL_lease_20 : decode cL_lease 20 = .ok (.bipush (-76), 2) := by decide +kernel
theorem dL_lease_22 : decode cL_lease 22 = .ok (.ireturn, 1) := by decide +kernel
theorem dL_endLease_0 : decode cL_endLease 0 = .ok (.aload_n 0, 1) := by decide +kernel
theorem dL_endLease_1 : decode cL_endLease 1 = .ok (.iload_n 1, 1) := by decide +kernel
theorem dL_endLease_2 : decode cL_endLease 2 = .ok (.invokevirtual 98, 3) := by decide +kernel
theorem dL_endLease_5 : decode cL_endLease 5 = .ok (.ireturn, 1) := by decide +kernel
theorem dL_endLease_6 : decode cL_endLease 6 = .ok (.astore_n 2, 1) := by decide +kernel
theorem dL_endLease_7 : decode cL_endLease 7 = .ok (.bipush (-77), 2) := by decide +kernel
theorem dL_endLease_9 : decode cL_endLease 9 = .ok (.ireturn, 1) := by decide +kernel
theorem dL_endLease_10 : decode cL_endLease 10 = .ok (.astore_n 2, 1) := by decide +kernel
theorem dL_endLease_11 : decode cL_endLease 11 = .ok (.bipush (-76), 2) := by decide +kernel
theorem dL_endLease_13 : decode cL_endLease 13 = .ok (.ireturn, 1) := by decide +kernel
theorem dL_renew_0 : decode cL_renew 0 = .ok (.aload_n 0, 1) := by decide +kernel
theorem dL_renew_1 : decode cL_renew 1 = .ok (.iload_n 1, 1) := by decide +kernel
theorem dL_renew_2 : decode cL_renew 2 = .ok (.iload_n 2, 1) := by decide +kernel
theorem dL_renew_3 : decode cL_renew 3 = .ok (.invokevirtual 101, 3) := by decide +kernel
theorem dL_renew_6 : decode cL_renew 6 = .ok (.ireturn, 1) := by decide +kernel
theorem dL_renew_7 : decode cL_renew 7 = .ok (.astore_n 3, 1) := by decide +kernel
theorem dL_renew_8 : decode cL_renew 8 = .ok (.bipush (-77), 2) := by decide +kernel
theorem dL_renew_10 : decode cL_renew 10 = .ok (.ireturn, 1) := by decide +kernel
theorem dL_renew_11 : decode cL_renew 11 = .ok (.astore_n 3, 1) := by decide +kernel
theorem dL_renew_12 : decode cL_renew 12 = .ok (.bipush (-78), 2) := by decide +kernel
theorem dL_renew_14 : decode cL_renew 14 = .ok (.ireturn, 1) := by decide +kernel
theorem dL_renew_15 : decode cL_renew 15 = .ok (.astore_n 3, 1) := by decide +kernel
theorem dL_renew_16 : decode cL_renew 16 = .ok (.bipush (-76), 2) := by decide +kernel
theorem dL_renew_18 : decode cL_renew 18 = .ok (.ireturn, 1) := by decide +kernel
theorem dL_isLet_0 : decode cL_isLet 0 = .ok (.aload_n 0, 1) := by decide +kernel
theorem dL_isLet_1 : decode cL_isLet 1 = .ok (.iload_n 1, 1) := by decide +kernel
theorem dL_isLet_2 : decode cL_isLet 2 = .ok (.invokevirtual 104, 3) := by decide +kernel
theorem dL_isLet_5 : decode cL_isLet 5 = .ok (.ifCond .eq 7, 3) := by decide +kernel
theorem dL_isLet_8 : decode cL_isLet 8 = .ok (.iconst 1, 1) := by decide +kernel
theorem dL_isLet_9 : decode cL_isLet 9 = .ok (.goto 4, 3) := by decide +kernel
theorem dL_isLet_12 : decode cL_isLet 12 = .ok (.iconst 0, 1) := by decide +kernel
theorem dL_isLet_13 : decode cL_isLet 13 = .ok (.ireturn, 1) := by decide +kernel
theorem dL_isLet_14 : decode cL_isLet 14 = .ok (.astore_n 2, 1) := by decide +kernel
theorem dL_isLet_15 : decode cL_isLet 15 = .ok (.bipush (-77), 2) := by decide +kernel
theorem dL_isLet_17 : decode cL_isLet 17 = .ok (.ireturn, 1) := by decide +kernel
theorem dL_tenantOf_0 : decode cL_tenantOf 0 = .ok (.aload_n 0, 1) := by decide +kernel
theorem dL_tenantOf_1 : decode cL_tenantOf 1 = .ok (.iload_n 1, 1) := by decide +kernel
theorem dL_tenantOf_2 : decode cL_tenantOf 2 = .ok (.invokevirtual 107, 3) := by decide +kernel
theorem dL_tenantOf_5 : decode cL_tenantOf 5 = .ok (.ireturn, 1) := by decide +kernel
theorem dL_tenantOf_6 : decode cL_tenantOf 6 = .ok (.astore_n 2, 1) := by decide +kernel
theorem dL_tenantOf_7 : decode cL_tenantOf 7 = .ok (.bipush (-77), 2) := by decide +kernel
theorem dL_tenantOf_9 : decode cL_tenantOf 9 = .ok (.ireturn, 1) := by decide +kernel
theorem dL_tenantOf_10 : decode cL_tenantOf 10 = .ok (.astore_n 2, 1) := by decide +kernel
theorem dL_tenantOf_11 : decode cL_tenantOf 11 = .ok (.bipush (-75), 2) := by decide +kernel
theorem dL_tenantOf_13 : decode cL_tenantOf 13 = .ok (.ireturn, 1) := by decide +kernel
theorem dL_depositOf_0 : decode cL_depositOf 0 = .ok (.aload_n 0, 1) := by decide +kernel
theorem dL_depositOf_1 : decode cL_depositOf 1 = .ok (.iload_n 1, 1) := by decide +kernel
theorem dL_depositOf_2 : decode cL_depositOf 2 = .ok (.invokevirtual 110, 3) := by decide +kernel
theorem dL_depositOf_5 : decode cL_depositOf 5 = .ok (.ireturn, 1) := by decide +kernel
theorem dL_depositOf_6 : decode cL_depositOf 6 = .ok (.astore_n 2, 1) := by decide +kernel
theorem dL_depositOf_7 : decode cL_depositOf 7 = .ok (.bipush (-77), 2) := by decide +kernel
theorem dL_depositOf_9 : decode cL_depositOf 9 = .ok (.ireturn, 1) := by decide +kernel
theorem dL_depositOf_10 : decode cL_depositOf 10 = .ok (.astore_n 2, 1) := by decide +kernel
theorem dL_depositOf_11 : decode cL_depositOf 11 = .ok (.bipush (-75), 2) := by decide +kernel
theorem dL_depositOf_13 : decode cL_depositOf 13 = .ok (.ireturn, 1) := by decide +kernel
theorem dL_monthsLeft_0 : decode cL_monthsLeft 0 = .ok (.aload_n 0, 1) := by decide +kernel
theorem dL_monthsLeft_1 : decode cL_monthsLeft 1 = .ok (.iload_n 1, 1) := by decide +kernel
theorem dL_monthsLeft_2 : decode cL_monthsLeft 2 = .ok (.invokevirtual 113, 3) := by decide +kernel
theorem dL_monthsLeft_5 : decode cL_monthsLeft 5 = .ok (.ireturn, 1) := by decide +kernel
theorem dL_monthsLeft_6 : decode cL_monthsLeft 6 = .ok (.astore_n 2, 1) := by decide +kernel
theorem dL_monthsLeft_7 : decode cL_monthsLeft 7 = .ok (.bipush (-77), 2) := by decide +kernel
theorem dL_monthsLeft_9 : decode cL_monthsLeft 9 = .ok (.ireturn, 1) := by decide +kernel
theorem dL_monthsLeft_10 : decode cL_monthsLeft 10 = .ok (.astore_n 2, 1) := by decide +kernel
theorem dL_monthsLeft_11 : decode cL_monthsLeft 11 = .ok (.bipush (-75), 2) := by decide +kernel
theorem dL_monthsLeft_13 : decode cL_monthsLeft 13 = .ok (.ireturn, 1) := by decide +kernel
theorem dL_defaultMonth_0 : decode cL_defaultMonth 0 = .ok (.aload_n 0, 1) := by decide +kernel
theorem dL_defaultMonth_1 : decode cL_defaultMonth 1 = .ok (.iload_n 1, 1) := by decide +kernel
theorem dL_defaultMonth_2 : decode cL_defaultMonth 2 = .ok (.invokevirtual 116, 3) := by decide +kernel
theorem dL_defaultMonth_5 : decode cL_defaultMonth 5 = .ok (.ireturn, 1) := by decide +kernel
theorem dL_defaultMonth_6 : decode cL_defaultMonth 6 = .ok (.astore_n 2, 1) := by decide +kernel
theorem dL_defaultMonth_7 : decode cL_defaultMonth 7 = .ok (.bipush (-77), 2) := by decide +kernel
theorem dL_defaultMonth_9 : decode cL_defaultMonth 9 = .ok (.ireturn, 1) := by decide +kernel
theorem dL_defaultMonth_10 : decode cL_defaultMonth 10 = .ok (.astore_n 2, 1) := by decide +kernel
theorem dL_defaultMonth_11 : decode cL_defaultMonth 11 = .ok (.bipush (-75), 2) := by decide +kernel
theorem dL_defaultMonth_13 : decode cL_defaultMonth 13 = .ok (.ireturn, 1) := by decide +kernel
theorem dL_passMonths_0 : decode cL_passMonths 0 = .ok (.aload_n 0, 1) := by decide +kernel
theorem dL_passMonths_1 : decode cL_passMonths 1 = .ok (.iload_n 1, 1) := by decide +kernel
theorem dL_passMonths_2 : decode cL_passMonths 2 = .ok (.invokevirtual 119, 3) := by decide +kernel
theorem dL_passMonths_5 : decode cL_passMonths 5 = .ok (.ireturn, 1) := by decide +kernel
theorem dL_passMonths_6 : decode cL_passMonths 6 = .ok (.astore_n 2, 1) := by decide +kernel
theorem dL_passMonths_7 : decode cL_passMonths 7 = .ok (.bipush (-78), 2) := by decide +kernel
theorem dL_passMonths_9 : decode cL_passMonths 9 = .ok (.ireturn, 1) := by decide +kernel
theorem dL_incomeWithin_0 : decode cL_incomeWithin 0 = .ok (.aload_n 0, 1) := by decide +kernel
theorem dL_incomeWithin_1 : decode cL_incomeWithin 1 = .ok (.iload_n 1, 1) := by decide +kernel
theorem dL_incomeWithin_2 : decode cL_incomeWithin 2 = .ok (.invokevirtual 122, 3) := by decide +kernel
theorem dL_incomeWithin_5 : decode cL_incomeWithin 5 = .ok (.ireturn, 1) := by decide +kernel
theorem dL_incomeWithin_6 : decode cL_incomeWithin 6 = .ok (.astore_n 2, 1) := by decide +kernel
theorem dL_incomeWithin_7 : decode cL_incomeWithin 7 = .ok (.bipush (-78), 2) := by decide +kernel
theorem dL_incomeWithin_9 : decode cL_incomeWithin 9 = .ok (.ireturn, 1) := by decide +kernel
theorem dL_incomeByLeases_0 : decode cL_incomeByLeases 0 = .ok (.aload_n 0, 1) := by decide +kernel
theorem dL_incomeByLeases_1 : decode cL_incomeByLeases 1 = .ok (.iload_n 1, 1) := by decide +kernel
theorem dL_incomeByLeases_2 : decode cL_incomeByLeases 2 = .ok (.invokevirtual 125, 3) := by decide +kernel
theorem dL_incomeByLeases_5 : decode cL_incomeByLeases 5 = .ok (.ireturn, 1) := by decide +kernel
theorem dL_incomeByLeases_6 : decode cL_incomeByLeases 6 = .ok (.astore_n 2, 1) := by decide +kernel
theorem dL_incomeByLeases_7 : decode cL_incomeByLeases 7 = .ok (.bipush (-78), 2) := by decide +kernel
theorem dL_incomeByLeases_9 : decode cL_incomeByLeases 9 = .ok (.ireturn, 1) := by decide +kernel
theorem dL_benchByRent_0 : decode cL_benchByRent 0 = .ok (.aload_n 0, 1) := by decide +kernel
theorem dL_benchByRent_1 : decode cL_benchByRent 1 = .ok (.iload_n 1, 1) := by decide +kernel
theorem dL_benchByRent_2 : decode cL_benchByRent 2 = .ok (.invokevirtual 128, 3) := by decide +kernel
theorem dL_benchByRent_5 : decode cL_benchByRent 5 = .ok (.ireturn, 1) := by decide +kernel
theorem dL_benchByRent_6 : decode cL_benchByRent 6 = .ok (.astore_n 2, 1) := by decide +kernel
theorem dL_benchByRent_7 : decode cL_benchByRent 7 = .ok (.bipush (-75), 2) := by decide +kernel
theorem dL_benchByRent_9 : decode cL_benchByRent 9 = .ok (.ireturn, 1) := by decide +kernel
theorem dL_tenantByCoins_0 : decode cL_tenantByCoins 0 = .ok (.aload_n 0, 1) := by decide +kernel
theorem dL_tenantByCoins_1 : decode cL_tenantByCoins 1 = .ok (.iload_n 1, 1) := by decide +kernel
theorem dL_tenantByCoins_2 : decode cL_tenantByCoins 2 = .ok (.invokevirtual 131, 3) := by decide +kernel
theorem dL_tenantByCoins_5 : decode cL_tenantByCoins 5 = .ok (.ireturn, 1) := by decide +kernel
theorem dL_tenantByCoins_6 : decode cL_tenantByCoins 6 = .ok (.astore_n 2, 1) := by decide +kernel
theorem dL_tenantByCoins_7 : decode cL_tenantByCoins 7 = .ok (.bipush (-75), 2) := by decide +kernel
theorem dL_tenantByCoins_9 : decode cL_tenantByCoins 9 = .ok (.ireturn, 1) := by decide +kernel
theorem dL_meanRent_0 : decode cL_meanRent 0 = .ok (.aload_n 0, 1) := by decide +kernel
theorem dL_meanRent_1 : decode cL_meanRent 1 = .ok (.invokevirtual 134, 3) := by decide +kernel
theorem dL_meanRent_4 : decode cL_meanRent 4 = .ok (.dreturn, 1) := by decide +kernel
theorem dL_meanRent_5 : decode cL_meanRent 5 = .ok (.astore_n 1, 1) := by decide +kernel
theorem dL_meanRent_6 : decode cL_meanRent 6 = .ok (.ldc2_w 140, 3) := by decide +kernel
theorem dL_meanRent_9 : decode cL_meanRent 9 = .ok (.dreturn, 1) := by decide +kernel
theorem dL_letShare_0 : decode cL_letShare 0 = .ok (.aload_n 0, 1) := by decide +kernel
theorem dL_letShare_1 : decode cL_letShare 1 = .ok (.invokevirtual 142, 3) := by decide +kernel
theorem dL_letShare_4 : decode cL_letShare 4 = .ok (.freturn, 1) := by decide +kernel
theorem dL_letShare_5 : decode cL_letShare 5 = .ok (.astore_n 1, 1) := by decide +kernel
theorem dL_letShare_6 : decode cL_letShare 6 = .ok (.ldc 146, 2) := by decide +kernel
theorem dL_letShare_8 : decode cL_letShare 8 = .ok (.freturn, 1) := by decide +kernel
theorem dL_writeRow_0 : decode cL_writeRow 0 = .ok (.aload_n 0, 1) := by decide +kernel
theorem dL_writeRow_1 : decode cL_writeRow 1 = .ok (.iload_n 1, 1) := by decide +kernel
theorem dL_writeRow_2 : decode cL_writeRow 2 = .ok (.invokevirtual 150, 3) := by decide +kernel
theorem dL_writeRow_5 : decode cL_writeRow 5 = .ok (.ireturn, 1) := by decide +kernel
theorem dL_writeRow_6 : decode cL_writeRow 6 = .ok (.astore_n 2, 1) := by decide +kernel
theorem dL_writeRow_7 : decode cL_writeRow 7 = .ok (.bipush (-77), 2) := by decide +kernel
theorem dL_writeRow_9 : decode cL_writeRow 9 = .ok (.ireturn, 1) := by decide +kernel
theorem dL_outputAt_0 : decode cL_outputAt 0 = .ok (.aload_n 0, 1) := by decide +kernel
theorem dL_outputAt_1 : decode cL_outputAt 1 = .ok (.iload_n 1, 1) := by decide +kernel
theorem dL_outputAt_2 : decode cL_outputAt 2 = .ok (.invokevirtual 153, 3) := by decide +kernel
theorem dL_outputAt_5 : decode cL_outputAt 5 = .ok (.ireturn, 1) := by decide +kernel
theorem dL_outputAt_6 : decode cL_outputAt 6 = .ok (.astore_n 2, 1) := by decide +kernel
theorem dL_outputAt_7 : decode cL_outputAt 7 = .ok (.bipush (-77), 2) := by decide +kernel
theorem dL_outputAt_9 : decode cL_outputAt 9 = .ok (.ireturn, 1) := by decide +kernel
theorem dL_appendInput_0 : decode cL_appendInput 0 = .ok (.aload_n 0, 1) := by decide +kernel
theorem dL_appendInput_1 : decode cL_appendInput 1 = .ok (.iload_n 1, 1) := by decide +kernel
theorem dL_appendInput_2 : decode cL_appendInput 2 = .ok (.invokevirtual 157, 3) := by decide +kernel
theorem dL_appendInput_5 : decode cL_appendInput 5 = .ok (.ireturn, 1) := by decide +kernel
theorem dL_appendInput_6 : decode cL_appendInput 6 = .ok (.astore_n 2, 1) := by decide +kernel
theorem dL_appendInput_7 : decode cL_appendInput 7 = .ok (.bipush (-78), 2) := by decide +kernel
theorem dL_appendInput_9 : decode cL_appendInput 9 = .ok (.ireturn, 1) := by decide +kernel
theorem dL_appendInput_10 : decode cL_appendInput 10 = .ok (.astore_n 2, 1) := by decide +kernel
theorem dL_appendInput_11 : decode cL_appendInput 11 = .ok (.bipush (-79), 2) := by decide +kernel
theorem dL_appendInput_13 : decode cL_appendInput 13 = .ok (.ireturn, 1) := by decide +kernel
theorem dL_execute_0 : decode cL_execute 0 = .ok (.aload_n 0, 1) := by decide +kernel
theorem dL_execute_1 : decode cL_execute 1 = .ok (.invokevirtual 163, 3) := by decide +kernel
theorem dL_execute_4 : decode cL_execute 4 = .ok (.ireturn, 1) := by decide +kernel
theorem dL_execute_5 : decode cL_execute 5 = .ok (.astore_n 1, 1) := by decide +kernel
theorem dL_execute_6 : decode cL_execute 6 = .ok (.bipush (-78), 2) := by decide +kernel
theorem dL_execute_8 : decode cL_execute 8 = .ok (.ireturn, 1) := by decide +kernel
theorem dL_execute_9 : decode cL_execute 9 = .ok (.astore_n 1, 1) := by decide +kernel
theorem dL_execute_10 : decode cL_execute 10 = .ok (.bipush (-79), 2) := by decide +kernel
theorem dL_execute_12 : decode cL_execute 12 = .ok (.ireturn, 1) := by decide +kernel
theorem dL_execute_13 : decode cL_execute 13 = .ok (.astore_n 1, 1) := by decide +kernel
theorem dL_execute_14 : decode cL_execute 14 = .ok (.bipush (-76), 2) := by decide +kernel
theorem dL_execute_16 : decode cL_execute 16 = .ok (.ireturn, 1) := by decide +kernel
theorem dL_undo_0 : decode cL_undo 0 = .ok (.aload_n 0, 1) := by decide +kernel
theorem dL_undo_1 : decode cL_undo 1 = .ok (.invokevirtual 179, 3) := by decide +kernel
theorem dL_undo_4 : decode cL_undo 4 = .ok (.ireturn, 1) := by decide +kernel
theorem dL_undo_5 : decode cL_undo 5 = .ok (.astore_n 1, 1) := by decide +kernel
theorem dL_undo_6 : decode cL_undo 6 = .ok (.bipush (-79), 2) := by decide +kernel
theorem dL_undo_8 : decode cL_undo 8 = .ok (.ireturn, 1) := by decide +kernel
theorem dL_restoreSnapshot_0 : decode cL_restoreSnapshot 0 = .ok (.aload_n 0, 1) := by decide +kernel
theorem dL_restoreSnapshot_1 : decode cL_restoreSnapshot 1 = .ok (.invokevirtual 182, 3) := by decide +kernel
theorem dL_restoreSnapshot_4 : decode cL_restoreSnapshot 4 = .ok (.ireturn, 1) := by decide +kernel
theorem dL_restoreSnapshot_5 : decode cL_restoreSnapshot 5 = .ok (.astore_n 1, 1) := by decide +kernel
theorem dL_restoreSnapshot_6 : decode cL_restoreSnapshot 6 = .ok (.bipush (-79), 2) := by decide +kernel
theorem dL_restoreSnapshot_8 : decode cL_restoreSnapshot 8 = .ok (.ireturn, 1) := by decide +kernel
theorem dL_runs_0 : decode cL_runs 0 = .ok (.iconst 0, 1) := by decide +kernel
theorem dL_runs_1 : decode cL_runs 1 = .ok (.istore_n 2, 1) := by decide +kernel
theorem dL_runs_2 : decode cL_runs 2 = .ok (.iload_n 2, 1) := by decide +kernel
theorem dL_runs_3 : decode cL_runs 3 = .ok (.aload_n 1, 1) := by decide +kernel
theorem dL_runs_4 : decode cL_runs 4 = .ok (.invokevirtual 185, 3) := by decide +kernel
theorem dL_runs_7 : decode cL_runs 7 = .ok (.if_icmp .ge 19, 3) := by decide +kernel
theorem dL_runs_10 : decode cL_runs 10 = .ok (.aload_n 0, 1) := by decide +kernel
theorem dL_runs_11 : decode cL_runs 11 = .ok (.aload_n 1, 1) := by decide +kernel
theorem dL_runs_12 : decode cL_runs 12 = .ok (.iload_n 2, 1) := by decide +kernel
theorem dL_runs_13 : decode cL_runs 13 = .ok (.invokevirtual 190, 3) := by decide +kernel
theorem dL_runs_16 : decode cL_runs 16 = .ok (.invokestatic 193, 3) := by decide +kernel
theorem dL_runs_19 : decode cL_runs 19 = .ok (.istore_n 3, 1) := by decide +kernel
theorem dL_runs_20 : decode cL_runs 20 = .ok (.iinc 2 1, 3) := by decide +kernel
theorem dL_runs_23 : decode cL_runs 23 = .ok (.goto (-21), 3) := by decide +kernel
theorem dL_runs_26 : decode cL_runs 26 = .ok (.aload_n 0, 1) := by decide +kernel
theorem dL_runs_27 : decode cL_runs 27 = .ok (.invokestatic 196, 3) := by decide +kernel
theorem dL_runs_30 : decode cL_runs 30 = .ok (.ireturn, 1) := by decide +kernel
theorem dL_endings_0 : decode cL_endings 0 = .ok (.aload_n 0, 1) := by decide +kernel
theorem dL_endings_1 : decode cL_endings 1 = .ok (.invokevirtual 258, 3) := by decide +kernel
theorem dL_endings_4 : decode cL_endings 4 = .ok (.aload_n 0, 1) := by decide +kernel
theorem dL_endings_5 : decode cL_endings 5 = .ok (.invokevirtual 261, 3) := by decide +kernel
theorem dL_endings_8 : decode cL_endings 8 = .ok (.iadd, 1) := by decide +kernel
theorem dL_endings_9 : decode cL_endings 9 = .ok (.aload_n 0, 1) := by decide +kernel
theorem dL_endings_10 : decode cL_endings 10 = .ok (.invokevirtual 264, 3) := by decide +kernel
theorem dL_endings_13 : decode cL_endings 13 = .ok (.iadd, 1) := by decide +kernel
theorem dL_endings_14 : decode cL_endings 14 = .ok (.ireturn, 1) := by decide +kernel
theorem dL_does_0 : decode cL_does 0 = .ok (.aload_n 0, 1) := by decide +kernel
theorem dL_does_1 : decode cL_does 1 = .ok (.iload_n 1, 1) := by decide +kernel
theorem dL_does_2 : decode cL_does 2 = .ok (.iconst 1, 1) := by decide +kernel
theorem dL_does_3 : decode cL_does 3 = .ok (.iadd, 1) := by decide +kernel
theorem dL_does_4 : decode cL_does 4 = .ok (.sipush 1000, 3) := by decide +kernel
theorem dL_does_7 : decode cL_does 7 = .ok (.invokestatic 213, 3) := by decide +kernel
theorem dL_does_10 : decode cL_does 10 = .ok (.istore 7, 2) := by decide +kernel
theorem dL_does_12 : decode cL_does 12 = .ok (.aload_n 0, 1) := by decide +kernel
theorem dL_does_13 : decode cL_does 13 = .ok (.iload_n 1, 1) := by decide +kernel
theorem dL_does_14 : decode cL_does 14 = .ok (.iconst 4, 1) := by decide +kernel
theorem dL_does_15 : decode cL_does 15 = .ok (.iadd, 1) := by decide +kernel
theorem dL_does_16 : decode cL_does 16 = .ok (.sipush 1000, 3) := by decide +kernel
theorem dL_does_19 : decode cL_does 19 = .ok (.invokestatic 213, 3) := by decide +kernel
theorem dL_does_22 : decode cL_does 22 = .ok (.istore 8, 2) := by decide +kernel
theorem dL_does_24 : decode cL_does 24 = .ok (.iload 8, 2) := by decide +kernel
theorem dL_does_26 : decode cL_does 26 = .ok (.aload_n 3, 1) := by decide +kernel
theorem dL_does_27 : decode cL_does 27 = .ok (.invokevirtual 267, 3) := by decide +kernel
theorem dL_does_30 : decode cL_does 30 = .ok (.iconst 1, 1) := by decide +kernel
theorem dL_does_31 : decode cL_does 31 = .ok (.iadd, 1) := by decide +kernel
theorem dL_does_32 : decode cL_does 32 = .ok (.irem, 1) := by decide +kernel
theorem dL_does_33 : decode cL_does 33 = .ok (.istore 9, 2) := by decide +kernel
theorem dL_does_35 : decode cL_does 35 = .ok (.iload_n 2, 1) := by decide +kernel
theorem dL_does_36 : decode cL_does 36 = .ok (.tableswitch 307 0 36 #[164, 164, 164, 164, 187, 187, 210, 210, 220, 220, 220, 230, 230, 237, 249, 249, 249, 249, 256, 256, 256, 268, 268, 268, 268, 268, 268, 268, 268, 268, 279, 279, 286, 286, 286, 295, 295], 164) := by decide +kernel
theorem dL_does_200 : decode cL_does 200 = .ok (.aload_n 3, 1) := by decide +kernel
theorem dL_does_201 : decode cL_does 201 = .ok (.iload 8, 2) := by decide +kernel
theorem dL_does_203 : decode cL_does 203 = .ok (.bipush 6, 2) := by decide +kernel
theorem dL_does_205 : decode cL_does 205 = .ok (.irem, 1) := by decide +kernel
theorem dL_does_206 : decode cL_does 206 = .ok (.iload 8, 2) := by decide +kernel
theorem dL_does_208 : decode cL_does 208 = .ok (.bipush 6, 2) := by decide +kernel
theorem dL_does_210 : decode cL_does 210 = .ok (.idiv, 1) := by decide +kernel
theorem dL_does_211 : decode cL_does 211 = .ok (.bipush 6, 2) := by decide +kernel
theorem dL_does_213 : decode cL_does 213 = .ok (.irem, 1) := by decide +kernel
theorem dL_does_214 : decode cL_does 214 = .ok (.iload 7, 2) := by decide +kernel
theorem dL_does_216 : decode cL_does 216 = .ok (.bipush 21, 2) := by decide +kernel
theorem dL_does_218 : decode cL_does 218 = .ok (.irem, 1) := by decide +kernel
theorem dL_does_219 : decode cL_does 219 = .ok (.invokestatic 270, 3) := by decide +kernel
theorem dL_does_222 : decode cL_does 222 = .ok (.ireturn, 1) := by decide +kernel
theorem dL_does_223 : decode cL_does 223 = .ok (.aload_n 3, 1) := by decide +kernel
theorem dL_does_224 : decode cL_does 224 = .ok (.iload 8, 2) := by decide +kernel
theorem dL_does_226 : decode cL_does 226 = .ok (.bipush 6, 2) := by decide +kernel
theorem dL_does_228 : decode cL_does 228 = .ok (.irem, 1) := by decide +kernel
theorem dL_does_229 : decode cL_does 229 = .ok (.iload 8, 2) := by decide +kernel
theorem dL_does_231 : decode cL_does 231 = .ok (.bipush 6, 2) := by decide +kernel
theorem dL_does_233 : decode cL_does 233 = .ok (.idiv, 1) := by decide +kernel
theorem dL_does_234 : decode cL_does 234 = .ok (.bipush 7, 2) := by decide +kernel
theorem dL_does_236 : decode cL_does 236 = .ok (.irem, 1) := by decide +kernel
theorem dL_does_237 : decode cL_does 237 = .ok (.iload 7, 2) := by decide +kernel
theorem dL_does_239 : decode cL_does 239 = .ok (.bipush 10, 2) := by decide +kernel
theorem dL_does_241 : decode cL_does 241 = .ok (.irem, 1) := by decide +kernel
theorem dL_does_242 : decode cL_does 242 = .ok (.invokestatic 273, 3) := by decide +kernel
theorem dL_does_245 : decode cL_does 245 = .ok (.ireturn, 1) := by decide +kernel
theorem dL_does_246 : decode cL_does 246 = .ok (.aload_n 3, 1) := by decide +kernel
theorem dL_does_247 : decode cL_does 247 = .ok (.iload 7, 2) := by decide +kernel
theorem dL_does_249 : decode cL_does 249 = .ok (.bipush 22, 2) := by decide +kernel
theorem dL_does_251 : decode cL_does 251 = .ok (.irem, 1) := by decide +kernel
theorem dL_does_252 : decode cL_does 252 = .ok (.invokestatic 275, 3) := by decide +kernel
theorem dL_does_255 : decode cL_does 255 = .ok (.ireturn, 1) := by decide +kernel
theorem dL_does_256 : decode cL_does 256 = .ok (.aload_n 3, 1) := by decide +kernel
theorem dL_does_257 : decode cL_does 257 = .ok (.iload 7, 2) := by decide +kernel
theorem dL_does_259 : decode cL_does 259 = .ok (.bipush 40, 2) := by decide +kernel
theorem dL_does_261 : decode cL_does 261 = .ok (.irem, 1) := by decide +kernel
theorem dL_does_262 : decode cL_does 262 = .ok (.invokestatic 277, 3) := by decide +kernel
theorem dL_does_265 : decode cL_does 265 = .ok (.ireturn, 1) := by decide +kernel
theorem dL_does_266 : decode cL_does 266 = .ok (.aload_n 3, 1) := by decide +kernel
theorem dL_does_267 : decode cL_does 267 = .ok (.iload 9, 2) := by decide +kernel
theorem dL_does_269 : decode cL_does 269 = .ok (.invokestatic 279, 3) := by decide +kernel
theorem dL_does_272 : decode cL_does 272 = .ok (.ireturn, 1) := by decide +kernel
theorem dL_does_273 : decode cL_does 273 = .ok (.aload_n 3, 1) := by decide +kernel
theorem dL_does_274 : decode cL_does 274 = .ok (.iload 9, 2) := by decide +kernel
theorem dL_does_276 : decode cL_does 276 = .ok (.iload 7, 2) := by decide +kernel
theorem dL_does_278 : decode cL_does 278 = .ok (.bipush 10, 2) := by decide +kernel
theorem dL_does_280 : decode cL_does 280 = .ok (.irem, 1) := by decide +kernel
theorem dL_does_281 : decode cL_does 281 = .ok (.invokestatic 281, 3) := by decide +kernel
theorem dL_does_284 : decode cL_does 284 = .ok (.ireturn, 1) := by decide +kernel
theorem dL_does_285 : decode cL_does 285 = .ok (.aload_n 3, 1) := by decide +kernel
theorem dL_does_286 : decode cL_does 286 = .ok (.iload 6, 2) := by decide +kernel
theorem dL_does_288 : decode cL_does 288 = .ok (.invokestatic 283, 3) := by decide +kernel
theorem dL_does_291 : decode cL_does 291 = .ok (.ireturn, 1) := by decide +kernel
theorem dL_does_292 : decode cL_does 292 = .ok (.aload_n 3, 1) := by decide +kernel
theorem dL_does_293 : decode cL_does 293 = .ok (.iload 4, 2) := by decide +kernel
theorem dL_does_295 : decode cL_does 295 = .ok (.iload 8, 2) := by decide +kernel
theorem dL_does_297 : decode cL_does 297 = .ok (.bipush 30, 2) := by decide +kernel
theorem dL_does_299 : decode cL_does 299 = .ok (.irem, 1) := by decide +kernel
theorem dL_does_300 : decode cL_does 300 = .ok (.invokestatic 285, 3) := by decide +kernel
theorem dL_does_303 : decode cL_does 303 = .ok (.ireturn, 1) := by decide +kernel
theorem dL_does_304 : decode cL_does 304 = .ok (.aload_n 3, 1) := by decide +kernel
theorem dL_does_305 : decode cL_does 305 = .ok (.iload 4, 2) := by decide +kernel
theorem dL_does_307 : decode cL_does 307 = .ok (.iload 5, 2) := by decide +kernel
theorem dL_does_309 : decode cL_does 309 = .ok (.iload 6, 2) := by decide +kernel
theorem dL_does_311 : decode cL_does 311 = .ok (.invokestatic 287, 3) := by decide +kernel
theorem dL_does_314 : decode cL_does 314 = .ok (.ireturn, 1) := by decide +kernel
theorem dL_does_315 : decode cL_does 315 = .ok (.aload_n 3, 1) := by decide +kernel
theorem dL_does_316 : decode cL_does 316 = .ok (.iload 5, 2) := by decide +kernel
theorem dL_does_318 : decode cL_does 318 = .ok (.invokestatic 289, 3) := by decide +kernel
theorem dL_does_321 : decode cL_does 321 = .ok (.ireturn, 1) := by decide +kernel
theorem dL_does_322 : decode cL_does 322 = .ok (.aload_n 3, 1) := by decide +kernel
theorem dL_does_323 : decode cL_does 323 = .ok (.iload 5, 2) := by decide +kernel
theorem dL_does_325 : decode cL_does 325 = .ok (.iload 6, 2) := by decide +kernel
theorem dL_does_327 : decode cL_does 327 = .ok (.invokestatic 291, 3) := by decide +kernel
theorem dL_does_330 : decode cL_does 330 = .ok (.ireturn, 1) := by decide +kernel
theorem dL_does_331 : decode cL_does 331 = .ok (.aload_n 3, 1) := by decide +kernel
theorem dL_does_332 : decode cL_does 332 = .ok (.iload 5, 2) := by decide +kernel
theorem dL_does_334 : decode cL_does 334 = .ok (.iload 8, 2) := by decide +kernel
theorem dL_does_336 : decode cL_does 336 = .ok (.bipush 21, 2) := by decide +kernel
theorem dL_does_338 : decode cL_does 338 = .ok (.irem, 1) := by decide +kernel
theorem dL_does_339 : decode cL_does 339 = .ok (.invokestatic 293, 3) := by decide +kernel
theorem dL_does_342 : decode cL_does 342 = .ok (.ireturn, 1) := by decide +kernel
theorem dL_does_343 : decode cL_does 343 = .ok (.aload_n 3, 1) := by decide +kernel
theorem dL_does_344 : decode cL_does 344 = .ok (.new 295, 3) := by decide +kernel
theorem dL_does_347 : decode cL_does 347 = .ok (.dup, 1) := by decide +kernel
theorem dL_does_348 : decode cL_does 348 = .ok (.invokespecial 297, 3) := by decide +kernel
theorem dL_does_351 : decode cL_does 351 = .ok (.ldc_w 298, 3) := by decide +kernel
theorem dL_does_354 : decode cL_does 354 = .ok (.invokevirtual 300, 3) := by decide +kernel
theorem dL_does_357 : decode cL_does 357 = .ok (.iload 7, 2) := by decide +kernel
theorem dL_does_359 : decode cL_does 359 = .ok (.bipush 10, 2) := by decide +kernel
theorem dL_does_361 : decode cL_does 361 = .ok (.irem, 1) := by decide +kernel
theorem dL_does_362 : decode cL_does 362 = .ok (.invokevirtual 304, 3) := by decide +kernel
theorem dL_does_365 : decode cL_does 365 = .ok (.iload 7, 2) := by decide +kernel
theorem dL_does_367 : decode cL_does 367 = .ok (.iconst 4, 1) := by decide +kernel
theorem dL_does_368 : decode cL_does 368 = .ok (.irem, 1) := by decide +kernel
theorem dL_does_369 : decode cL_does 369 = .ok (.ifCond .ne 44, 3) := by decide +kernel
theorem dL_does_372 : decode cL_does 372 = .ok (.new 295, 3) := by decide +kernel
theorem dL_does_375 : decode cL_does 375 = .ok (.dup, 1) := by decide +kernel
theorem dL_does_376 : decode cL_does 376 = .ok (.invokespecial 297, 3) := by decide +kernel
theorem dL_does_379 : decode cL_does 379 = .ok (.ldc_w 307, 3) := by decide +kernel
theorem dL_does_382 : decode cL_does 382 = .ok (.invokevirtual 300, 3) := by decide +kernel
theorem dL_does_385 : decode cL_does 385 = .ok (.iload 4, 2) := by decide +kernel
theorem dL_does_387 : decode cL_does 387 = .ok (.invokevirtual 304, 3) := by decide +kernel
theorem dL_does_390 : decode cL_does 390 = .ok (.ldc_w 309, 3) := by decide +kernel
theorem dL_does_393 : decode cL_does 393 = .ok (.invokevirtual 300, 3) := by decide +kernel
theorem dL_does_396 : decode cL_does 396 = .ok (.iload 5, 2) := by decide +kernel
theorem dL_does_398 : decode cL_does 398 = .ok (.invokevirtual 304, 3) := by decide +kernel
theorem dL_does_401 : decode cL_does 401 = .ok (.ldc_w 311, 3) := by decide +kernel
theorem dL_does_404 : decode cL_does 404 = .ok (.invokevirtual 300, 3) := by decide +kernel
theorem dL_does_407 : decode cL_does 407 = .ok (.invokevirtual 313, 3) := by decide +kernel
theorem dL_does_410 : decode cL_does 410 = .ok (.goto 52, 3) := by decide +kernel
theorem dL_does_413 : decode cL_does 413 = .ok (.iload 7, 2) := by decide +kernel
theorem dL_does_415 : decode cL_does 415 = .ok (.iconst 4, 1) := by decide +kernel
theorem dL_does_416 : decode cL_does 416 = .ok (.irem, 1) := by decide +kernel
theorem dL_does_417 : decode cL_does 417 = .ok (.iconst 1, 1) := by decide +kernel
theorem dL_does_418 : decode cL_does 418 = .ok (.if_icmp .ne 9, 3) := by decide +kernel
theorem dL_does_421 : decode cL_does 421 = .ok (.ldc_w 317, 3) := by decide +kernel
theorem dL_does_424 : decode cL_does 424 = .ok (.goto 38, 3) := by decide +kernel
theorem dL_does_427 : decode cL_does 427 = .ok (.iload 7, 2) := by decide +kernel
theorem dL_does_429 : decode cL_does 429 = .ok (.iconst 4, 1) := by decide +kernel
theorem dL_does_430 : decode cL_does 430 = .ok (.irem, 1) := by decide +kernel
theorem dL_does_431 : decode cL_does 431 = .ok (.iconst 2, 1) := by decide +kernel
theorem dL_does_432 : decode cL_does 432 = .ok (.if_icmp .ne 27, 3) := by decide +kernel
theorem dL_does_435 : decode cL_does 435 = .ok (.new 295, 3) := by decide +kernel
theorem dL_does_438 : decode cL_does 438 = .ok (.dup, 1) := by decide +kernel
theorem dL_does_439 : decode cL_does 439 = .ok (.invokespecial 297, 3) := by decide +kernel
theorem dL_does_442 : decode cL_does 442 = .ok (.ldc_w 319, 3) := by decide +kernel
theorem dL_does_445 : decode cL_does 445 = .ok (.invokevirtual 300, 3) := by decide +kernel
theorem dL_does_448 : decode cL_does 448 = .ok (.iload 5, 2) := by decide +kernel
theorem dL_does_450 : decode cL_does 450 = .ok (.invokevirtual 304, 3) := by decide +kernel
theorem dL_does_453 : decode cL_does 453 = .ok (.invokevirtual 313, 3) := by decide +kernel
theorem dL_does_456 : decode cL_does 456 = .ok (.goto 6, 3) := by decide +kernel
theorem dL_does_459 : decode cL_does 459 = .ok (.ldc_w 321, 3) := by decide +kernel
theorem dL_does_462 : decode cL_does 462 = .ok (.invokevirtual 300, 3) := by decide +kernel
theorem dL_does_465 : decode cL_does 465 = .ok (.invokevirtual 313, 3) := by decide +kernel
theorem dL_does_468 : decode cL_does 468 = .ok (.invokestatic 323, 3) := by decide +kernel
theorem dL_does_471 : decode cL_does 471 = .ok (.ireturn, 1) := by decide +kernel
theorem dL_sum_0 : decode cL_sum 0 = .ok (.ldc2_w 327, 3) := by decide +kernel
theorem dL_sum_3 : decode cL_sum 3 = .ok (.aload_n 0, 1) := by decide +kernel
theorem dL_sum_4 : decode cL_sum 4 = .ok (.invokevirtual 329, 3) := by decide +kernel
theorem dL_sum_7 : decode cL_sum 7 = .ok (.i2l, 1) := by decide +kernel
theorem dL_sum_8 : decode cL_sum 8 = .ok (.lmul, 1) := by decide +kernel
theorem dL_sum_9 : decode cL_sum 9 = .ok (.aload_n 0, 1) := by decide +kernel
theorem dL_sum_10 : decode cL_sum 10 = .ok (.invokevirtual 332, 3) := by decide +kernel
theorem dL_sum_13 : decode cL_sum 13 = .ok (.i2l, 1) := by decide +kernel
theorem dL_sum_14 : decode cL_sum 14 = .ok (.ladd, 1) := by decide +kernel
theorem dL_sum_15 : decode cL_sum 15 = .ok (.lstore_n 1, 1) := by decide +kernel
theorem dL_sum_16 : decode cL_sum 16 = .ok (.ldc2_w 327, 3) := by decide +kernel
theorem dL_sum_19 : decode cL_sum 19 = .ok (.lload_n 1, 1) := by decide +kernel
theorem dL_sum_20 : decode cL_sum 20 = .ok (.lmul, 1) := by decide +kernel
theorem dL_sum_21 : decode cL_sum 21 = .ok (.aload_n 0, 1) := by decide +kernel
theorem dL_sum_22 : decode cL_sum 22 = .ok (.invokevirtual 228, 3) := by decide +kernel
theorem dL_sum_25 : decode cL_sum 25 = .ok (.i2l, 1) := by decide +kernel
theorem dL_sum_26 : decode cL_sum 26 = .ok (.ladd, 1) := by decide +kernel
theorem dL_sum_27 : decode cL_sum 27 = .ok (.lstore_n 1, 1) := by decide +kernel
theorem dL_sum_28 : decode cL_sum 28 = .ok (.ldc2_w 327, 3) := by decide +kernel
theorem dL_sum_31 : decode cL_sum 31 = .ok (.lload_n 1, 1) := by decide +kernel
theorem dL_sum_32 : decode cL_sum 32 = .ok (.lmul, 1) := by decide +kernel
theorem dL_sum_33 : decode cL_sum 33 = .ok (.aload_n 0, 1) := by decide +kernel
theorem dL_sum_34 : decode cL_sum 34 = .ok (.invokevirtual 335, 3) := by decide +kernel
theorem dL_sum_37 : decode cL_sum 37 = .ok (.i2l, 1) := by decide +kernel
theorem dL_sum_38 : decode cL_sum 38 = .ok (.ladd, 1) := by decide +kernel
theorem dL_sum_39 : decode cL_sum 39 = .ok (.lstore_n 1, 1) := by decide +kernel
theorem dL_sum_40 : decode cL_sum 40 = .ok (.ldc2_w 327, 3) := by decide +kernel
theorem dL_sum_43 : decode cL_sum 43 = .ok (.lload_n 1, 1) := by decide +kernel
theorem dL_sum_44 : decode cL_sum 44 = .ok (.lmul, 1) := by decide +kernel
theorem dL_sum_45 : decode cL_sum 45 = .ok (.ldc2_w 338, 3) := by decide +kernel
theorem dL_sum_48 : decode cL_sum 48 = .ok (.aload_n 0, 1) := by decide +kernel
theorem dL_sum_49 : decode cL_sum 49 = .ok (.invokevirtual 258, 3) := by decide +kernel
theorem dL_sum_52 : decode cL_sum 52 = .ok (.i2l, 1) := by decide +kernel
theorem dL_sum_53 : decode cL_sum 53 = .ok (.lmul, 1) := by decide +kernel
theorem dL_sum_54 : decode cL_sum 54 = .ok (.ladd, 1) := by decide +kernel
theorem dL_sum_55 : decode cL_sum 55 = .ok (.ldc2_w 340, 3) := by decide +kernel
theorem dL_sum_58 : decode cL_sum 58 = .ok (.aload_n 0, 1) := by decide +kernel
theorem dL_sum_59 : decode cL_sum 59 = .ok (.invokevirtual 261, 3) := by decide +kernel
theorem dL_sum_62 : decode cL_sum 62 = .ok (.i2l, 1) := by decide +kernel
theorem dL_sum_63 : decode cL_sum 63 = .ok (.lmul, 1) := by decide +kernel
theorem dL_sum_64 : decode cL_sum 64 = .ok (.ladd, 1) := by decide +kernel
theorem dL_sum_65 : decode cL_sum 65 = .ok (.aload_n 0, 1) := by decide +kernel
theorem dL_sum_66 : decode cL_sum 66 = .ok (.invokevirtual 264, 3) := by decide +kernel
theorem dL_sum_69 : decode cL_sum 69 = .ok (.i2l, 1) := by decide +kernel
theorem dL_sum_70 : decode cL_sum 70 = .ok (.ladd, 1) := by decide +kernel
theorem dL_sum_71 : decode cL_sum 71 = .ok (.lstore_n 1, 1) := by decide +kernel
theorem dL_sum_72 : decode cL_sum 72 = .ok (.iconst 0, 1) := by decide +kernel
theorem dL_sum_73 : decode cL_sum 73 = .ok (.istore_n 3, 1) := by decide +kernel
theorem dL_sum_74 : decode cL_sum 74 = .ok (.iload_n 3, 1) := by decide +kernel
theorem dL_sum_75 : decode cL_sum 75 = .ok (.aload_n 0, 1) := by decide +kernel
theorem dL_sum_76 : decode cL_sum 76 = .ok (.invokevirtual 220, 3) := by decide +kernel
theorem dL_sum_79 : decode cL_sum 79 = .ok (.if_icmp .ge 79, 3) := by decide +kernel
theorem dL_sum_82 : decode cL_sum 82 = .ok (.ldc2_w 327, 3) := by decide +kernel
theorem dL_sum_85 : decode cL_sum 85 = .ok (.lload_n 1, 1) := by decide +kernel
theorem dL_sum_86 : decode cL_sum 86 = .ok (.lmul, 1) := by decide +kernel
theorem dL_sum_87 : decode cL_sum 87 = .ok (.ldc2_w 342, 3) := by decide +kernel
theorem dL_sum_90 : decode cL_sum 90 = .ok (.aload_n 0, 1) := by decide +kernel
theorem dL_sum_91 : decode cL_sum 91 = .ok (.iload_n 3, 1) := by decide +kernel
theorem dL_sum_92 : decode cL_sum 92 = .ok (.invokestatic 344, 3) := by decide +kernel
theorem dL_sum_95 : decode cL_sum 95 = .ok (.i2l, 1) := by decide +kernel
theorem dL_sum_96 : decode cL_sum 96 = .ok (.lmul, 1) := by decide +kernel
theorem dL_sum_97 : decode cL_sum 97 = .ok (.ladd, 1) := by decide +kernel
theorem dL_sum_98 : decode cL_sum 98 = .ok (.ldc2_w 327, 3) := by decide +kernel
theorem dL_sum_101 : decode cL_sum 101 = .ok (.aload_n 0, 1) := by decide +kernel
theorem dL_sum_102 : decode cL_sum 102 = .ok (.iload_n 3, 1) := by decide +kernel
theorem dL_sum_103 : decode cL_sum 103 = .ok (.invokestatic 346, 3) := by decide +kernel
theorem dL_sum_106 : decode cL_sum 106 = .ok (.i2l, 1) := by decide +kernel
theorem dL_sum_107 : decode cL_sum 107 = .ok (.lmul, 1) := by decide +kernel
theorem dL_sum_108 : decode cL_sum 108 = .ok (.ladd, 1) := by decide +kernel
theorem dL_sum_109 : decode cL_sum 109 = .ok (.aload_n 0, 1) := by decide +kernel
theorem dL_sum_110 : decode cL_sum 110 = .ok (.iload_n 3, 1) := by decide +kernel
theorem dL_sum_111 : decode cL_sum 111 = .ok (.invokestatic 348, 3) := by decide +kernel
theorem dL_sum_114 : decode cL_sum 114 = .ok (.i2l, 1) := by decide +kernel
theorem dL_sum_115 : decode cL_sum 115 = .ok (.ladd, 1) := by decide +kernel
theorem dL_sum_116 : decode cL_sum 116 = .ok (.lstore_n 1, 1) := by decide +kernel
theorem dL_sum_117 : decode cL_sum 117 = .ok (.ldc2_w 327, 3) := by decide +kernel
theorem dL_sum_120 : decode cL_sum 120 = .ok (.lload_n 1, 1) := by decide +kernel
theorem dL_sum_121 : decode cL_sum 121 = .ok (.lmul, 1) := by decide +kernel
theorem dL_sum_122 : decode cL_sum 122 = .ok (.ldc2_w 342, 3) := by decide +kernel
theorem dL_sum_125 : decode cL_sum 125 = .ok (.aload_n 0, 1) := by decide +kernel
theorem dL_sum_126 : decode cL_sum 126 = .ok (.iload_n 3, 1) := by decide +kernel
theorem dL_sum_127 : decode cL_sum 127 = .ok (.invokestatic 244, 3) := by decide +kernel
theorem dL_sum_130 : decode cL_sum 130 = .ok (.i2l, 1) := by decide +kernel
theorem dL_sum_131 : decode cL_sum 131 = .ok (.lmul, 1) := by decide +kernel
theorem dL_sum_132 : decode cL_sum 132 = .ok (.ladd, 1) := by decide +kernel
theorem dL_sum_133 : decode cL_sum 133 = .ok (.ldc2_w 327, 3) := by decide +kernel
theorem dL_sum_136 : decode cL_sum 136 = .ok (.aload_n 0, 1) := by decide +kernel
theorem dL_sum_137 : decode cL_sum 137 = .ok (.iload_n 3, 1) := by decide +kernel
theorem dL_sum_138 : decode cL_sum 138 = .ok (.invokestatic 350, 3) := by decide +kernel
theorem dL_sum_141 : decode cL_sum 141 = .ok (.i2l, 1) := by decide +kernel
theorem dL_sum_142 : decode cL_sum 142 = .ok (.lmul, 1) := by decide +kernel
theorem dL_sum_143 : decode cL_sum 143 = .ok (.ladd, 1) := by decide +kernel
theorem dL_sum_144 : decode cL_sum 144 = .ok (.aload_n 0, 1) := by decide +kernel
theorem dL_sum_145 : decode cL_sum 145 = .ok (.iload_n 3, 1) := by decide +kernel
theorem dL_sum_146 : decode cL_sum 146 = .ok (.invokestatic 236, 3) := by decide +kernel
theorem dL_sum_149 : decode cL_sum 149 = .ok (.i2l, 1) := by decide +kernel
theorem dL_sum_150 : decode cL_sum 150 = .ok (.ladd, 1) := by decide +kernel
theorem dL_sum_151 : decode cL_sum 151 = .ok (.lstore_n 1, 1) := by decide +kernel
theorem dL_sum_152 : decode cL_sum 152 = .ok (.iinc 3 1, 3) := by decide +kernel
theorem dL_sum_155 : decode cL_sum 155 = .ok (.goto (-81), 3) := by decide +kernel
theorem dL_sum_158 : decode cL_sum 158 = .ok (.iconst 0, 1) := by decide +kernel
theorem dL_sum_159 : decode cL_sum 159 = .ok (.istore_n 3, 1) := by decide +kernel
theorem dL_sum_160 : decode cL_sum 160 = .ok (.iload_n 3, 1) := by decide +kernel
theorem dL_sum_161 : decode cL_sum 161 = .ok (.aload_n 0, 1) := by decide +kernel
theorem dL_sum_162 : decode cL_sum 162 = .ok (.invokevirtual 267, 3) := by decide +kernel
theorem dL_sum_165 : decode cL_sum 165 = .ok (.if_icmp .ge 33, 3) := by decide +kernel
theorem dL_sum_168 : decode cL_sum 168 = .ok (.ldc2_w 327, 3) := by decide +kernel
theorem dL_sum_171 : decode cL_sum 171 = .ok (.lload_n 1, 1) := by decide +kernel
theorem dL_sum_172 : decode cL_sum 172 = .ok (.lmul, 1) := by decide +kernel
theorem dL_sum_173 : decode cL_sum 173 = .ok (.ldc2_w 327, 3) := by decide +kernel
theorem dL_sum_176 : decode cL_sum 176 = .ok (.aload_n 0, 1) := by decide +kernel
theorem dL_sum_177 : decode cL_sum 177 = .ok (.iload_n 3, 1) := by decide +kernel
theorem dL_sum_178 : decode cL_sum 178 = .ok (.invokestatic 352, 3) := by decide +kernel
theorem dL_sum_181 : decode cL_sum 181 = .ok (.i2l, 1) := by decide +kernel
theorem dL_sum_182 : decode cL_sum 182 = .ok (.lmul, 1) := by decide +kernel
theorem dL_sum_183 : decode cL_sum 183 = .ok (.ladd, 1) := by decide +kernel
theorem dL_sum_184 : decode cL_sum 184 = .ok (.aload_n 0, 1) := by decide +kernel
theorem dL_sum_185 : decode cL_sum 185 = .ok (.iload_n 3, 1) := by decide +kernel
theorem dL_sum_186 : decode cL_sum 186 = .ok (.invokestatic 354, 3) := by decide +kernel
theorem dL_sum_189 : decode cL_sum 189 = .ok (.i2l, 1) := by decide +kernel
theorem dL_sum_190 : decode cL_sum 190 = .ok (.ladd, 1) := by decide +kernel
theorem dL_sum_191 : decode cL_sum 191 = .ok (.lstore_n 1, 1) := by decide +kernel
theorem dL_sum_192 : decode cL_sum 192 = .ok (.iinc 3 1, 3) := by decide +kernel
theorem dL_sum_195 : decode cL_sum 195 = .ok (.goto (-35), 3) := by decide +kernel
theorem dL_sum_198 : decode cL_sum 198 = .ok (.iconst 0, 1) := by decide +kernel
theorem dL_sum_199 : decode cL_sum 199 = .ok (.istore_n 3, 1) := by decide +kernel
theorem dL_sum_200 : decode cL_sum 200 = .ok (.iload_n 3, 1) := by decide +kernel
theorem dL_sum_201 : decode cL_sum 201 = .ok (.aload_n 0, 1) := by decide +kernel
theorem dL_sum_202 : decode cL_sum 202 = .ok (.invokevirtual 217, 3) := by decide +kernel
theorem dL_sum_205 : decode cL_sum 205 = .ok (.if_icmp .ge 33, 3) := by decide +kernel
theorem dL_sum_208 : decode cL_sum 208 = .ok (.ldc2_w 327, 3) := by decide +kernel
theorem dL_sum_211 : decode cL_sum 211 = .ok (.lload_n 1, 1) := by decide +kernel
theorem dL_sum_212 : decode cL_sum 212 = .ok (.lmul, 1) := by decide +kernel
theorem dL_sum_213 : decode cL_sum 213 = .ok (.ldc2_w 327, 3) := by decide +kernel
theorem dL_sum_216 : decode cL_sum 216 = .ok (.aload_n 0, 1) := by decide +kernel
theorem dL_sum_217 : decode cL_sum 217 = .ok (.iload_n 3, 1) := by decide +kernel
theorem dL_sum_218 : decode cL_sum 218 = .ok (.invokestatic 356, 3) := by decide +kernel
theorem dL_sum_221 : decode cL_sum 221 = .ok (.i2l, 1) := by decide +kernel
theorem dL_sum_222 : decode cL_sum 222 = .ok (.lmul, 1) := by decide +kernel
theorem dL_sum_223 : decode cL_sum 223 = .ok (.ladd, 1) := by decide +kernel
theorem dL_sum_224 : decode cL_sum 224 = .ok (.aload_n 0, 1) := by decide +kernel
theorem dL_sum_225 : decode cL_sum 225 = .ok (.iload_n 3, 1) := by decide +kernel
theorem dL_sum_226 : decode cL_sum 226 = .ok (.invokestatic 358, 3) := by decide +kernel
theorem dL_sum_229 : decode cL_sum 229 = .ok (.i2l, 1) := by decide +kernel
theorem dL_sum_230 : decode cL_sum 230 = .ok (.ladd, 1) := by decide +kernel
theorem dL_sum_231 : decode cL_sum 231 = .ok (.lstore_n 1, 1) := by decide +kernel
theorem dL_sum_232 : decode cL_sum 232 = .ok (.iinc 3 1, 3) := by decide +kernel
theorem dL_sum_235 : decode cL_sum 235 = .ok (.goto (-35), 3) := by decide +kernel
theorem dL_sum_238 : decode cL_sum 238 = .ok (.iconst 0, 1) := by decide +kernel
theorem dL_sum_239 : decode cL_sum 239 = .ok (.istore_n 3, 1) := by decide +kernel
theorem dL_sum_240 : decode cL_sum 240 = .ok (.iload_n 3, 1) := by decide +kernel
theorem dL_sum_241 : decode cL_sum 241 = .ok (.bipush 6, 2) := by decide +kernel
theorem dL_sum_243 : decode cL_sum 243 = .ok (.if_icmp .ge 46, 3) := by decide +kernel
theorem dL_sum_246 : decode cL_sum 246 = .ok (.aload_n 0, 1) := by decide +kernel
theorem dL_sum_247 : decode cL_sum 247 = .ok (.iload_n 3, 1) := by decide +kernel
theorem dL_sum_248 : decode cL_sum 248 = .ok (.invokestatic 360, 3) := by decide +kernel
theorem dL_sum_251 : decode cL_sum 251 = .ok (.istore 4, 2) := by decide +kernel
theorem dL_sum_253 : decode cL_sum 253 = .ok (.iconst 0, 1) := by decide +kernel
theorem dL_sum_254 : decode cL_sum 254 = .ok (.istore 5, 2) := by decide +kernel
theorem dL_sum_256 : decode cL_sum 256 = .ok (.iload 5, 2) := by decide +kernel
theorem dL_sum_258 : decode cL_sum 258 = .ok (.iload 4, 2) := by decide +kernel
theorem dL_sum_260 : decode cL_sum 260 = .ok (.if_icmp .ge 23, 3) := by decide +kernel
theorem dL_sum_263 : decode cL_sum 263 = .ok (.ldc2_w 327, 3) := by decide +kernel
theorem dL_sum_266 : decode cL_sum 266 = .ok (.lload_n 1, 1) := by decide +kernel
theorem dL_sum_267 : decode cL_sum 267 = .ok (.lmul, 1) := by decide +kernel
theorem dL_sum_268 : decode cL_sum 268 = .ok (.aload_n 0, 1) := by decide +kernel
theorem dL_sum_269 : decode cL_sum 269 = .ok (.iload 5, 2) := by decide +kernel
theorem dL_sum_271 : decode cL_sum 271 = .ok (.invokestatic 205, 3) := by decide +kernel
theorem dL_sum_274 : decode cL_sum 274 = .ok (.i2l, 1) := by decide +kernel
theorem dL_sum_275 : decode cL_sum 275 = .ok (.ladd, 1) := by decide +kernel
theorem dL_sum_276 : decode cL_sum 276 = .ok (.lstore_n 1, 1) := by decide +kernel
theorem dL_sum_277 : decode cL_sum 277 = .ok (.iinc 5 1, 3) := by decide +kernel
theorem dL_sum_280 : decode cL_sum 280 = .ok (.goto (-24), 3) := by decide +kernel
theorem dL_sum_283 : decode cL_sum 283 = .ok (.iinc 3 1, 3) := by decide +kernel
theorem dL_sum_286 : decode cL_sum 286 = .ok (.goto (-46), 3) := by decide +kernel
theorem dL_sum_289 : decode cL_sum 289 = .ok (.lload_n 1, 1) := by decide +kernel
theorem dL_sum_290 : decode cL_sum 290 = .ok (.lreturn, 1) := by decide +kernel
theorem dL_isBench_0 : decode cL_isBench 0 = .ok (.aload_n 0, 1) := by decide +kernel
theorem dL_isBench_1 : decode cL_isBench 1 = .ok (.aload_n 0, 1) := by decide +kernel
theorem dL_isBench_2 : decode cL_isBench 2 = .ok (.iload_n 1, 1) := by decide +kernel
theorem dL_isBench_3 : decode cL_isBench 3 = .ok (.invokestatic 346, 3) := by decide +kernel
theorem dL_isBench_6 : decode cL_isBench 6 = .ok (.aload_n 0, 1) := by decide +kernel
theorem dL_isBench_7 : decode cL_isBench 7 = .ok (.iload_n 1, 1) := by decide +kernel
theorem dL_isBench_8 : decode cL_isBench 8 = .ok (.invokestatic 348, 3) := by decide +kernel
theorem dL_isBench_11 : decode cL_isBench 11 = .ok (.invokestatic 362, 3) := by decide +kernel
theorem dL_isBench_14 : decode cL_isBench 14 = .ok (.istore_n 2, 1) := by decide +kernel
theorem dL_isBench_15 : decode cL_isBench 15 = .ok (.aload_n 0, 1) := by decide +kernel
theorem dL_isBench_16 : decode cL_isBench 16 = .ok (.iload_n 1, 1) := by decide +kernel
theorem dL_isBench_17 : decode cL_isBench 17 = .ok (.invokestatic 364, 3) := by decide +kernel
theorem dL_isBench_20 : decode cL_isBench 20 = .ok (.iconst 1, 1) := by decide +kernel
theorem dL_isBench_21 : decode cL_isBench 21 = .ok (.if_icmp .ne 7, 3) := by decide +kernel
theorem dL_isBench_24 : decode cL_isBench 24 = .ok (.iconst 1, 1) := by decide +kernel
theorem dL_isBench_25 : decode cL_isBench 25 = .ok (.goto 4, 3) := by decide +kernel
theorem dL_isBench_28 : decode cL_isBench 28 = .ok (.iconst 0, 1) := by decide +kernel
theorem dL_isBench_29 : decode cL_isBench 29 = .ok (.istore_n 3, 1) := by decide +kernel
theorem dL_isBench_30 : decode cL_isBench 30 = .ok (.aload_n 0, 1) := by decide +kernel
theorem dL_isBench_31 : decode cL_isBench 31 = .ok (.iload_n 1, 1) := by decide +kernel
theorem dL_isBench_32 : decode cL_isBench 32 = .ok (.invokestatic 238, 3) := by decide +kernel
theorem dL_isBench_35 : decode cL_isBench 35 = .ok (.iconst 1, 1) := by decide +kernel
theorem dL_isBench_36 : decode cL_isBench 36 = .ok (.aload_n 0, 1) := by decide +kernel
theorem dL_isBench_37 : decode cL_isBench 37 = .ok (.iload_n 1, 1) := by decide +kernel
theorem dL_isBench_38 : decode cL_isBench 38 = .ok (.invokestatic 344, 3) := by decide +kernel
theorem dL_isBench_41 : decode cL_isBench 41 = .ok (.iload_n 2, 1) := by decide +kernel
theorem dL_isBench_42 : decode cL_isBench 42 = .ok (.isub, 1) := by decide +kernel
theorem dL_isBench_43 : decode cL_isBench 43 = .ok (.invokestatic 366, 3) := by decide +kernel
theorem dL_isBench_46 : decode cL_isBench 46 = .ok (.if_icmp .ne 24, 3) := by decide +kernel
theorem dL_isBench_49 : decode cL_isBench 49 = .ok (.iload_n 3, 1) := by decide +kernel
theorem dL_isBench_50 : decode cL_isBench 50 = .ok (.iload_n 2, 1) := by decide +kernel
theorem dL_isBench_51 : decode cL_isBench 51 = .ok (.aload_n 0, 1) := by decide +kernel
theorem dL_isBench_52 : decode cL_isBench 52 = .ok (.invokevirtual 329, 3) := by decide +kernel
theorem dL_isBench_55 : decode cL_isBench 55 = .ok (.if_icmp .gt 7, 3) := by decide +kernel
theorem dL_isBench_58 : decode cL_isBench 58 = .ok (.iconst 1, 1) := by decide +kernel
theorem dL_isBench_59 : decode cL_isBench 59 = .ok (.goto 4, 3) := by decide +kernel
theorem dL_isBench_62 : decode cL_isBench 62 = .ok (.iconst 0, 1) := by decide +kernel
theorem dL_isBench_63 : decode cL_isBench 63 = .ok (.if_icmp .ne 7, 3) := by decide +kernel
theorem dL_isBench_66 : decode cL_isBench 66 = .ok (.iconst 1, 1) := by decide +kernel
theorem dL_isBench_67 : decode cL_isBench 67 = .ok (.goto 4, 3) := by decide +kernel
theorem dL_isBench_70 : decode cL_isBench 70 = .ok (.iconst 0, 1) := by decide +kernel
theorem dL_isBench_71 : decode cL_isBench 71 = .ok (.istore 4, 2) := by decide +kernel
theorem dL_isBench_73 : decode cL_isBench 73 = .ok (.aload_n 0, 1) := by decide +kernel
theorem dL_isBench_74 : decode cL_isBench 74 = .ok (.iload_n 1, 1) := by decide +kernel
theorem dL_isBench_75 : decode cL_isBench 75 = .ok (.invokestatic 244, 3) := by decide +kernel
theorem dL_isBench_78 : decode cL_isBench 78 = .ok (.istore 5, 2) := by decide +kernel
theorem dL_isBench_80 : decode cL_isBench 80 = .ok (.aload_n 0, 1) := by decide +kernel
theorem dL_isBench_81 : decode cL_isBench 81 = .ok (.iload_n 1, 1) := by decide +kernel
theorem dL_isBench_82 : decode cL_isBench 82 = .ok (.invokestatic 234, 3) := by decide +kernel
theorem dL_isBench_85 : decode cL_isBench 85 = .ok (.istore 6, 2) := by decide +kernel
theorem dL_isBench_87 : decode cL_isBench 87 = .ok (.aload_n 0, 1) := by decide +kernel
theorem dL_isBench_88 : decode cL_isBench 88 = .ok (.iload_n 1, 1) := by decide +kernel
theorem dL_isBench_89 : decode cL_isBench 89 = .ok (.invokestatic 248, 3) := by decide +kernel
theorem dL_isBench_92 : decode cL_isBench 92 = .ok (.ifCond .ne 48, 3) := by decide +kernel
theorem dL_isBench_95 : decode cL_isBench 95 = .ok (.iload 4, 2) := by decide +kernel
theorem dL_isBench_97 : decode cL_isBench 97 = .ok (.ifCond .eq 41, 3) := by decide +kernel
theorem dL_isBench_100 : decode cL_isBench 100 = .ok (.iload 5, 2) := by decide +kernel
theorem dL_isBench_102 : decode cL_isBench 102 = .ok (.bipush (-75), 2) := by decide +kernel
theorem dL_isBench_104 : decode cL_isBench 104 = .ok (.if_icmp .ne 34, 3) := by decide +kernel
theorem dL_isBench_107 : decode cL_isBench 107 = .ok (.aload_n 0, 1) := by decide +kernel
theorem dL_isBench_108 : decode cL_isBench 108 = .ok (.iload_n 1, 1) := by decide +kernel
theorem dL_isBench_109 : decode cL_isBench 109 = .ok (.invokestatic 350, 3) := by decide +kernel
theorem dL_isBench_112 : decode cL_isBench 112 = .ok (.bipush (-75), 2) := by decide +kernel
theorem dL_isBench_114 : decode cL_isBench 114 = .ok (.if_icmp .ne 24, 3) := by decide +kernel
theorem dL_isBench_117 : decode cL_isBench 117 = .ok (.aload_n 0, 1) := by decide +kernel
theorem dL_isBench_118 : decode cL_isBench 118 = .ok (.iload_n 1, 1) := by decide +kernel
theorem dL_isBench_119 : decode cL_isBench 119 = .ok (.invokestatic 236, 3) := by decide +kernel
theorem dL_isBench_122 : decode cL_isBench 122 = .ok (.bipush (-75), 2) := by decide +kernel
theorem dL_isBench_124 : decode cL_isBench 124 = .ok (.if_icmp .ne 14, 3) := by decide +kernel
theorem dL_isBench_127 : decode cL_isBench 127 = .ok (.iload 6, 2) := by decide +kernel
theorem dL_isBench_129 : decode cL_isBench 129 = .ok (.bipush (-75), 2) := by decide +kernel
theorem dL_isBench_131 : decode cL_isBench 131 = .ok (.if_icmp .ne 7, 3) := by decide +kernel
theorem dL_isBench_134 : decode cL_isBench 134 = .ok (.iconst 1, 1) := by decide +kernel
theorem dL_isBench_135 : decode cL_isBench 135 = .ok (.goto 4, 3) := by decide +kernel
theorem dL_isBench_138 : decode cL_isBench 138 = .ok (.iconst 0, 1) := by decide +kernel
theorem dL_isBench_139 : decode cL_isBench 139 = .ok (.ireturn, 1) := by decide +kernel
theorem dL_isBench_140 : decode cL_isBench 140 = .ok (.aload_n 0, 1) := by decide +kernel
theorem dL_isBench_141 : decode cL_isBench 141 = .ok (.iload_n 1, 1) := by decide +kernel
theorem dL_isBench_142 : decode cL_isBench 142 = .ok (.invokestatic 236, 3) := by decide +kernel
theorem dL_isBench_145 : decode cL_isBench 145 = .ok (.istore 7, 2) := by decide +kernel
theorem dL_isBench_147 : decode cL_isBench 147 = .ok (.aload_n 0, 1) := by decide +kernel
theorem dL_isBench_148 : decode cL_isBench 148 = .ok (.iload_n 1, 1) := by decide +kernel
theorem dL_isBench_149 : decode cL_isBench 149 = .ok (.invokestatic 238, 3) := by decide +kernel
theorem dL_isBench_152 : decode cL_isBench 152 = .ok (.iload 7, 2) := by decide +kernel
theorem dL_isBench_154 : decode cL_isBench 154 = .ok (.imul, 1) := by decide +kernel
theorem dL_isBench_155 : decode cL_isBench 155 = .ok (.istore 8, 2) := by decide +kernel
theorem dL_isBench_157 : decode cL_isBench 157 = .ok (.iload 6, 2) := by decide +kernel
theorem dL_isBench_159 : decode cL_isBench 159 = .ok (.bipush (-75), 2) := by decide +kernel
theorem dL_isBench_161 : decode cL_isBench 161 = .ok (.if_icmp .ne 26, 3) := by decide +kernel
theorem dL_isBench_164 : decode cL_isBench 164 = .ok (.iload_n 3, 1) := by decide +kernel
theorem dL_isBench_165 : decode cL_isBench 165 = .ok (.ifCond .eq 14, 3) := by decide +kernel
theorem dL_isBench_168 : decode cL_isBench 168 = .ok (.aload_n 0, 1) := by decide +kernel
theorem dL_isBench_169 : decode cL_isBench 169 = .ok (.iload 5, 2) := by decide +kernel
theorem dL_isBench_171 : decode cL_isBench 171 = .ok (.invokestatic 356, 3) := by decide +kernel
theorem dL_isBench_174 : decode cL_isBench 174 = .ok (.iload 8, 2) := by decide +kernel
theorem dL_isBench_176 : decode cL_isBench 176 = .ok (.if_icmp .lt 7, 3) := by decide +kernel
theorem dL_isBench_179 : decode cL_isBench 179 = .ok (.iconst 1, 1) := by decide +kernel
theorem dL_isBench_180 : decode cL_isBench 180 = .ok (.goto 65, 3) := by decide +kernel
theorem dL_isBench_183 : decode cL_isBench 183 = .ok (.iconst 0, 1) := by decide +kernel
theorem dL_isBench_184 : decode cL_isBench 184 = .ok (.goto 61, 3) := by decide +kernel
theorem dL_isBench_187 : decode cL_isBench 187 = .ok (.iload_n 3, 1) := by decide +kernel
theorem dL_isBench_188 : decode cL_isBench 188 = .ok (.ifCond .eq 56, 3) := by decide +kernel
theorem dL_isBench_191 : decode cL_isBench 191 = .ok (.iload 6, 2) := by decide +kernel
theorem dL_isBench_193 : decode cL_isBench 193 = .ok (.iconst 1, 1) := by decide +kernel
theorem dL_isBench_194 : decode cL_isBench 194 = .ok (.if_icmp .lt 50, 3) := by decide +kernel
theorem dL_isBench_197 : decode cL_isBench 197 = .ok (.iload 6, 2) := by decide +kernel
theorem dL_isBench_199 : decode cL_isBench 199 = .ok (.iload 7, 2) := by decide +kernel
theorem dL_isBench_201 : decode cL_isBench 201 = .ok (.if_icmp .gt 43, 3) := by decide +kernel
theorem dL_isBench_204 : decode cL_isBench 204 = .ok (.aload_n 0, 1) := by decide +kernel
theorem dL_isBench_205 : decode cL_isBench 205 = .ok (.iload 5, 2) := by decide +kernel
theorem dL_isBench_207 : decode cL_isBench 207 = .ok (.invokestatic 356, 3) := by decide +kernel
theorem dL_isBench_210 : decode cL_isBench 210 = .ok (.aload_n 0, 1) := by decide +kernel
theorem dL_isBench_211 : decode cL_isBench 211 = .ok (.iload_n 1, 1) := by decide +kernel
theorem dL_isBench_212 : decode cL_isBench 212 = .ok (.invokestatic 238, 3) := by decide +kernel
theorem dL_isBench_215 : decode cL_isBench 215 = .ok (.iload 6, 2) := by decide +kernel
theorem dL_isBench_217 : decode cL_isBench 217 = .ok (.imul, 1) := by decide +kernel
theorem dL_isBench_218 : decode cL_isBench 218 = .ok (.if_icmp .ge 26, 3) := by decide +kernel
theorem dL_isBench_221 : decode cL_isBench 221 = .ok (.aload_n 0, 1) := by decide +kernel
theorem dL_isBench_222 : decode cL_isBench 222 = .ok (.iload 5, 2) := by decide +kernel
theorem dL_isBench_224 : decode cL_isBench 224 = .ok (.invokestatic 356, 3) := by decide +kernel
theorem dL_isBench_227 : decode cL_isBench 227 = .ok (.aload_n 0, 1) := by decide +kernel
theorem dL_isBench_228 : decode cL_isBench 228 = .ok (.iload_n 1, 1) := by decide +kernel
theorem dL_isBench_229 : decode cL_isBench 229 = .ok (.invokestatic 238, 3) := by decide +kernel
theorem dL_isBench_232 : decode cL_isBench 232 = .ok (.iload 6, 2) := by decide +kernel
theorem dL_isBench_234 : decode cL_isBench 234 = .ok (.iconst 1, 1) := by decide +kernel
theorem dL_isBench_235 : decode cL_isBench 235 = .ok (.isub, 1) := by decide +kernel
theorem dL_isBench_236 : decode cL_isBench 236 = .ok (.imul, 1) := by decide +kernel
theorem dL_isBench_237 : decode cL_isBench 237 = .ok (.if_icmp .lt 7, 3) := by decide +kernel
theorem dL_isBench_240 : decode cL_isBench 240 = .ok (.iconst 1, 1) := by decide +kernel
theorem dL_isBench_241 : decode cL_isBench 241 = .ok (.goto 4, 3) := by decide +kernel
theorem dL_isBench_244 : decode cL_isBench 244 = .ok (.iconst 0, 1) := by decide +kernel
theorem dL_isBench_245 : decode cL_isBench 245 = .ok (.istore 9, 2) := by decide +kernel
theorem dL_isBench_247 : decode cL_isBench 247 = .ok (.iload 4, 2) := by decide +kernel
theorem dL_isBench_249 : decode cL_isBench 249 = .ok (.ifCond .eq 54, 3) := by decide +kernel
theorem dL_isBench_252 : decode cL_isBench 252 = .ok (.iload 9, 2) := by decide +kernel
theorem dL_isBench_254 : decode cL_isBench 254 = .ok (.ifCond .eq 49, 3) := by decide +kernel
theorem dL_isBench_257 : decode cL_isBench 257 = .ok (.aload_n 0, 1) := by decide +kernel
theorem dL_isBench_258 : decode cL_isBench 258 = .ok (.iload 5, 2) := by decide +kernel
theorem dL_isBench_260 : decode cL_isBench 260 = .ok (.invokestatic 246, 3) := by decide +kernel
theorem dL_isBench_263 : decode cL_isBench 263 = .ok (.iload_n 1, 1) := by decide +kernel
theorem dL_isBench_264 : decode cL_isBench 264 = .ok (.if_icmp .ne 39, 3) := by decide +kernel
theorem dL_isBench_267 : decode cL_isBench 267 = .ok (.iload 7, 2) := by decide +kernel
theorem dL_isBench_269 : decode cL_isBench 269 = .ok (.iconst 1, 1) := by decide +kernel
theorem dL_isBench_270 : decode cL_isBench 270 = .ok (.if_icmp .lt 33, 3) := by decide +kernel
theorem dL_isBench_273 : decode cL_isBench 273 = .ok (.iload 7, 2) := by decide +kernel
theorem dL_isBench_275 : decode cL_isBench 275 = .ok (.bipush 12, 2) := by decide +kernel
theorem dL_isBench_277 : decode cL_isBench 277 = .ok (.if_icmp .gt 26, 3) := by decide +kernel
theorem dL_isBench_280 : decode cL_isBench 280 = .ok (.aload_n 0, 1) := by decide +kernel
theorem dL_isBench_281 : decode cL_isBench 281 = .ok (.iload_n 1, 1) := by decide +kernel
theorem dL_isBench_282 : decode cL_isBench 282 = .ok (.invokestatic 350, 3) := by decide +kernel
theorem dL_isBench_285 : decode cL_isBench 285 = .ok (.iconst 1, 1) := by decide +kernel
theorem dL_isBench_286 : decode cL_isBench 286 = .ok (.if_icmp .lt 17, 3) := by decide +kernel
theorem dL_isBench_289 : decode cL_isBench 289 = .ok (.aload_n 0, 1) := by decide +kernel
theorem dL_isBench_290 : decode cL_isBench 290 = .ok (.iload 5, 2) := by decide +kernel
theorem dL_isBench_292 : decode cL_isBench 292 = .ok (.invokestatic 358, 3) := by decide +kernel
theorem dL_isBench_295 : decode cL_isBench 295 = .ok (.iconst 3, 1) := by decide +kernel
theorem dL_isBench_296 : decode cL_isBench 296 = .ok (.if_icmp .ge 7, 3) := by decide +kernel
theorem dL_isBench_299 : decode cL_isBench 299 = .ok (.iconst 1, 1) := by decide +kernel
theorem dL_isBench_300 : decode cL_isBench 300 = .ok (.goto 4, 3) := by decide +kernel
theorem dL_isBench_303 : decode cL_isBench 303 = .ok (.iconst 0, 1) := by decide +kernel
theorem dL_isBench_304 : decode cL_isBench 304 = .ok (.ireturn, 1) := by decide +kernel
theorem dL_isTenant_0 : decode cL_isTenant 0 = .ok (.aload_n 0, 1) := by decide +kernel
theorem dL_isTenant_1 : decode cL_isTenant 1 = .ok (.iload_n 1, 1) := by decide +kernel
theorem dL_isTenant_2 : decode cL_isTenant 2 = .ok (.invokestatic 246, 3) := by decide +kernel
theorem dL_isTenant_5 : decode cL_isTenant 5 = .ok (.istore_n 2, 1) := by decide +kernel
theorem dL_isTenant_6 : decode cL_isTenant 6 = .ok (.aload_n 0, 1) := by decide +kernel
theorem dL_isTenant_7 : decode cL_isTenant 7 = .ok (.iload_n 1, 1) := by decide +kernel
theorem dL_isTenant_8 : decode cL_isTenant 8 = .ok (.invokestatic 371, 3) := by decide +kernel
theorem dL_isTenant_11 : decode cL_isTenant 11 = .ok (.istore_n 3, 1) := by decide +kernel
theorem dL_isTenant_12 : decode cL_isTenant 12 = .ok (.iconst 0, 1) := by decide +kernel
theorem dL_isTenant_13 : decode cL_isTenant 13 = .ok (.istore 4, 2) := by decide +kernel
theorem dL_isTenant_15 : decode cL_isTenant 15 = .ok (.iload 4, 2) := by decide +kernel
theorem dL_isTenant_17 : decode cL_isTenant 17 = .ok (.aload_n 0, 1) := by decide +kernel
theorem dL_isTenant_18 : decode cL_isTenant 18 = .ok (.invokevirtual 220, 3) := by decide +kernel
theorem dL_isTenant_21 : decode cL_isTenant 21 = .ok (.if_icmp .ge 134, 3) := by decide +kernel
theorem dL_isTenant_24 : decode cL_isTenant 24 = .ok (.aload_n 0, 1) := by decide +kernel
theorem dL_isTenant_25 : decode cL_isTenant 25 = .ok (.iload_n 1, 1) := by decide +kernel
theorem dL_isTenant_26 : decode cL_isTenant 26 = .ok (.iload 4, 2) := by decide +kernel
theorem dL_isTenant_28 : decode cL_isTenant 28 = .ok (.invokestatic 223, 3) := by decide +kernel
theorem dL_isTenant_31 : decode cL_isTenant 31 = .ok (.iconst 1, 1) := by decide +kernel
theorem dL_isTenant_32 : decode cL_isTenant 32 = .ok (.if_icmp .ne 7, 3) := by decide +kernel
theorem dL_isTenant_35 : decode cL_isTenant 35 = .ok (.iconst 1, 1) := by decide +kernel
theorem dL_isTenant_36 : decode cL_isTenant 36 = .ok (.goto 4, 3) := by decide +kernel
theorem dL_isTenant_39 : decode cL_isTenant 39 = .ok (.iconst 0, 1) := by decide +kernel
theorem dL_isTenant_40 : decode cL_isTenant 40 = .ok (.istore 5, 2) := by decide +kernel
theorem dL_isTenant_42 : decode cL_isTenant 42 = .ok (.iload 5, 2) := by decide +kernel
theorem dL_isTenant_44 : decode cL_isTenant 44 = .ok (.ifCond .eq 80, 3) := by decide +kernel
theorem dL_isTenant_47 : decode cL_isTenant 47 = .ok (.iload_n 2, 1) := by decide +kernel
theorem dL_isTenant_48 : decode cL_isTenant 48 = .ok (.bipush (-75), 2) := by decide +kernel
theorem dL_isTenant_50 : decode cL_isTenant 50 = .ok (.if_icmp .ne 78, 3) := by decide +kernel
theorem dL_isTenant_53 : decode cL_isTenant 53 = .ok (.aload_n 0, 1) := by decide +kernel
theorem dL_isTenant_54 : decode cL_isTenant 54 = .ok (.iload 4, 2) := by decide +kernel
theorem dL_isTenant_56 : decode cL_isTenant 56 = .ok (.invokestatic 248, 3) := by decide +kernel
theorem dL_isTenant_59 : decode cL_isTenant 59 = .ok (.ifCond .ne 69, 3) := by decide +kernel
theorem dL_isTenant_62 : decode cL_isTenant 62 = .ok (.aload_n 0, 1) := by decide +kernel
theorem dL_isTenant_63 : decode cL_isTenant 63 = .ok (.iload 4, 2) := by decide +kernel
theorem dL_isTenant_65 : decode cL_isTenant 65 = .ok (.invokestatic 364, 3) := by decide +kernel
theorem dL_isTenant_68 : decode cL_isTenant 68 = .ok (.iconst 1, 1) := by decide +kernel
theorem dL_isTenant_69 : decode cL_isTenant 69 = .ok (.if_icmp .ne 59, 3) := by decide +kernel
theorem dL_isTenant_72 : decode cL_isTenant 72 = .ok (.aload_n 0, 1) := by decide +kernel
theorem dL_isTenant_73 : decode cL_isTenant 73 = .ok (.iload_n 1, 1) := by decide +kernel
theorem dL_isTenant_74 : decode cL_isTenant 74 = .ok (.invokestatic 356, 3) := by decide +kernel
theorem dL_isTenant_77 : decode cL_isTenant 77 = .ok (.aload_n 0, 1) := by decide +kernel
theorem dL_isTenant_78 : decode cL_isTenant 78 = .ok (.iload 4, 2) := by decide +kernel
theorem dL_isTenant_80 : decode cL_isTenant 80 = .ok (.invokestatic 238, 3) := by decide +kernel
theorem dL_isTenant_83 : decode cL_isTenant 83 = .ok (.if_icmp .lt 45, 3) := by decide +kernel
theorem dL_isTenant_86 : decode cL_isTenant 86 = .ok (.iload_n 3, 1) := by decide +kernel
theorem dL_isTenant_87 : decode cL_isTenant 87 = .ok (.ifCond .lt 41, 3) := by decide +kernel
theorem dL_isTenant_90 : decode cL_isTenant 90 = .ok (.aload_n 0, 1) := by decide +kernel
theorem dL_isTenant_91 : decode cL_isTenant 91 = .ok (.iload_n 3, 1) := by decide +kernel
theorem dL_isTenant_92 : decode cL_isTenant 92 = .ok (.invokestatic 238, 3) := by decide +kernel
theorem dL_isTenant_95 : decode cL_isTenant 95 = .ok (.aload_n 0, 1) := by decide +kernel
theorem dL_isTenant_96 : decode cL_isTenant 96 = .ok (.iload 4, 2) := by decide +kernel
theorem dL_isTenant_98 : decode cL_isTenant 98 = .ok (.invokestatic 238, 3) := by decide +kernel
theorem dL_isTenant_101 : decode cL_isTenant 101 = .ok (.if_icmp .lt 23, 3) := by decide +kernel
theorem dL_isTenant_104 : decode cL_isTenant 104 = .ok (.aload_n 0, 1) := by decide +kernel
theorem dL_isTenant_105 : decode cL_isTenant 105 = .ok (.iload_n 3, 1) := by decide +kernel
theorem dL_isTenant_106 : decode cL_isTenant 106 = .ok (.invokestatic 238, 3) := by decide +kernel
theorem dL_isTenant_109 : decode cL_isTenant 109 = .ok (.aload_n 0, 1) := by decide +kernel
theorem dL_isTenant_110 : decode cL_isTenant 110 = .ok (.iload 4, 2) := by decide +kernel
theorem dL_isTenant_112 : decode cL_isTenant 112 = .ok (.invokestatic 238, 3) := by decide +kernel
theorem dL_isTenant_115 : decode cL_isTenant 115 = .ok (.if_icmp .ne 13, 3) := by decide +kernel
theorem dL_isTenant_118 : decode cL_isTenant 118 = .ok (.iload_n 3, 1) := by decide +kernel
theorem dL_isTenant_119 : decode cL_isTenant 119 = .ok (.iload 4, 2) := by decide +kernel
theorem dL_isTenant_121 : decode cL_isTenant 121 = .ok (.if_icmp .gt 7, 3) := by decide +kernel
theorem dL_isTenant_124 : decode cL_isTenant 124 = .ok (.iconst 1, 1) := by decide +kernel
theorem dL_isTenant_125 : decode cL_isTenant 125 = .ok (.goto 4, 3) := by decide +kernel
theorem dL_isTenant_128 : decode cL_isTenant 128 = .ok (.iconst 0, 1) := by decide +kernel
theorem dL_isTenant_129 : decode cL_isTenant 129 = .ok (.istore 6, 2) := by decide +kernel
theorem dL_isTenant_131 : decode cL_isTenant 131 = .ok (.iload 6, 2) := by decide +kernel
theorem dL_isTenant_133 : decode cL_isTenant 133 = .ok (.ifCond .eq 14, 3) := by decide +kernel
theorem dL_isTenant_136 : decode cL_isTenant 136 = .ok (.iload_n 3, 1) := by decide +kernel
theorem dL_isTenant_137 : decode cL_isTenant 137 = .ok (.iload 4, 2) := by decide +kernel
theorem dL_isTenant_139 : decode cL_isTenant 139 = .ok (.if_icmp .ne 10, 3) := by decide +kernel
theorem dL_isTenant_142 : decode cL_isTenant 142 = .ok (.iload 5, 2) := by decide +kernel
theorem dL_isTenant_144 : decode cL_isTenant 144 = .ok (.ifCond .ne 5, 3) := by decide +kernel
theorem dL_isTenant_147 : decode cL_isTenant 147 = .ok (.iconst 0, 1) := by decide +kernel
theorem dL_isTenant_148 : decode cL_isTenant 148 = .ok (.ireturn, 1) := by decide +kernel
theorem dL_isTenant_149 : decode cL_isTenant 149 = .ok (.iinc 4 1, 3) := by decide +kernel
theorem dL_isTenant_152 : decode cL_isTenant 152 = .ok (.goto (-137), 3) := by decide +kernel
theorem dL_isTenant_155 : decode cL_isTenant 155 = .ok (.iload_n 2, 1) := by decide +kernel
theorem dL_isTenant_156 : decode cL_isTenant 156 = .ok (.bipush (-75), 2) := by decide +kernel
theorem dL_isTenant_158 : decode cL_isTenant 158 = .ok (.if_icmp .eq 12, 3) := by decide +kernel
theorem dL_isTenant_161 : decode cL_isTenant 161 = .ok (.aload_n 0, 1) := by decide +kernel
theorem dL_isTenant_162 : decode cL_isTenant 162 = .ok (.iload_n 2, 1) := by decide +kernel
theorem dL_isTenant_163 : decode cL_isTenant 163 = .ok (.invokestatic 244, 3) := by decide +kernel
theorem dL_isTenant_166 : decode cL_isTenant 166 = .ok (.iload_n 1, 1) := by decide +kernel
theorem dL_isTenant_167 : decode cL_isTenant 167 = .ok (.if_icmp .ne 32, 3) := by decide +kernel
theorem dL_isTenant_170 : decode cL_isTenant 170 = .ok (.aload_n 0, 1) := by decide +kernel
theorem dL_isTenant_171 : decode cL_isTenant 171 = .ok (.iload_n 1, 1) := by decide +kernel
theorem dL_isTenant_172 : decode cL_isTenant 172 = .ok (.invokestatic 356, 3) := by decide +kernel
theorem dL_isTenant_175 : decode cL_isTenant 175 = .ok (.ifCond .lt 24, 3) := by decide +kernel
theorem dL_isTenant_178 : decode cL_isTenant 178 = .ok (.aload_n 0, 1) := by decide +kernel
theorem dL_isTenant_179 : decode cL_isTenant 179 = .ok (.iload_n 1, 1) := by decide +kernel
theorem dL_isTenant_180 : decode cL_isTenant 180 = .ok (.invokestatic 358, 3) := by decide +kernel
theorem dL_isTenant_183 : decode cL_isTenant 183 = .ok (.ifCond .lt 16, 3) := by decide +kernel
theorem dL_isTenant_186 : decode cL_isTenant 186 = .ok (.aload_n 0, 1) := by decide +kernel
theorem dL_isTenant_187 : decode cL_isTenant 187 = .ok (.iload_n 1, 1) := by decide +kernel
theorem dL_isTenant_188 : decode cL_isTenant 188 = .ok (.invokestatic 358, 3) := by decide +kernel
theorem dL_isTenant_191 : decode cL_isTenant 191 = .ok (.iconst 3, 1) := by decide +kernel
theorem dL_isTenant_192 : decode cL_isTenant 192 = .ok (.if_icmp .gt 7, 3) := by decide +kernel
theorem dL_isTenant_195 : decode cL_isTenant 195 = .ok (.iconst 1, 1) := by decide +kernel
theorem dL_isTenant_196 : decode cL_isTenant 196 = .ok (.goto 4, 3) := by decide +kernel
theorem dL_isTenant_199 : decode cL_isTenant 199 = .ok (.iconst 0, 1) := by decide +kernel
theorem dL_isTenant_200 : decode cL_isTenant 200 = .ok (.ireturn, 1) := by decide +kernel
theorem dL_isWhole_0 : decode cL_isWhole 0 = .ok (.aload_n 0, 1) := by decide +kernel
theorem dL_isWhole_1 : decode cL_isWhole 1 = .ok (.invokevirtual 220, 3) := by decide +kernel
theorem dL_isWhole_4 : decode cL_isWhole 4 = .ok (.istore 4, 2) := by decide +kernel
theorem dL_isWhole_6 : decode cL_isWhole 6 = .ok (.iconst 0, 1) := by decide +kernel
theorem dL_isWhole_7 : decode cL_isWhole 7 = .ok (.istore 5, 2) := by decide +kernel
theorem dL_isWhole_9 : decode cL_isWhole 9 = .ok (.iconst 0, 1) := by decide +kernel
theorem dL_isWhole_10 : decode cL_isWhole 10 = .ok (.istore 6, 2) := by decide +kernel
theorem dL_isWhole_12 : decode cL_isWhole 12 = .ok (.iconst 0, 1) := by decide +kernel
theorem dL_isWhole_13 : decode cL_isWhole 13 = .ok (.istore 7, 2) := by decide +kernel
theorem dL_isWhole_15 : decode cL_isWhole 15 = .ok (.iconst 0, 1) := by decide +kernel
theorem dL_isWhole_16 : decode cL_isWhole 16 = .ok (.istore 8, 2) := by decide +kernel
theorem dL_isWhole_18 : decode cL_isWhole 18 = .ok (.iconst 0, 1) := by decide +kernel
theorem dL_isWhole_19 : decode cL_isWhole 19 = .ok (.istore 9, 2) := by decide +kernel
theorem dL_isWhole_21 : decode cL_isWhole 21 = .ok (.iload 9, 2) := by decide +kernel
theorem dL_isWhole_23 : decode cL_isWhole 23 = .ok (.iload 4, 2) := by decide +kernel
theorem dL_isWhole_25 : decode cL_isWhole 25 = .ok (.if_icmp .ge 161, 3) := by decide +kernel
theorem dL_isWhole_28 : decode cL_isWhole 28 = .ok (.iload_n 3, 1) := by decide +kernel
theorem dL_isWhole_29 : decode cL_isWhole 29 = .ok (.ifCond .ne 17, 3) := by decide +kernel
theorem dL_isWhole_32 : decode cL_isWhole 32 = .ok (.iload 9, 2) := by decide +kernel
theorem dL_isWhole_34 : decode cL_isWhole 34 = .ok (.aload_n 1, 1) := by decide +kernel
theorem dL_isWhole_35 : decode cL_isWhole 35 = .ok (.iload_n 2, 1) := by decide +kernel
theorem dL_isWhole_36 : decode cL_isWhole 36 = .ok (.iconst 1, 1) := by decide +kernel
theorem dL_isWhole_37 : decode cL_isWhole 37 = .ok (.iadd, 1) := by decide +kernel
theorem dL_isWhole_38 : decode cL_isWhole 38 = .ok (.bipush 10, 2) := by decide +kernel
theorem dL_isWhole_40 : decode cL_isWhole 40 = .ok (.invokestatic 213, 3) := by decide +kernel
theorem dL_isWhole_43 : decode cL_isWhole 43 = .ok (.if_icmp .ne 14, 3) := by decide +kernel
theorem dL_isWhole_46 : decode cL_isWhole 46 = .ok (.aload_n 0, 1) := by decide +kernel
theorem dL_isWhole_47 : decode cL_isWhole 47 = .ok (.iload 9, 2) := by decide +kernel
theorem dL_isWhole_49 : decode cL_isWhole 49 = .ok (.invokestatic 373, 3) := by decide +kernel
theorem dL_isWhole_52 : decode cL_isWhole 52 = .ok (.ifCond .ne 5, 3) := by decide +kernel
theorem dL_isWhole_55 : decode cL_isWhole 55 = .ok (.iconst 0, 1) := by decide +kernel
theorem dL_isWhole_56 : decode cL_isWhole 56 = .ok (.ireturn, 1) := by decide +kernel
theorem dL_isWhole_57 : decode cL_isWhole 57 = .ok (.iload 5, 2) := by decide +kernel
theorem dL_isWhole_59 : decode cL_isWhole 59 = .ok (.aload_n 0, 1) := by decide +kernel
theorem dL_isWhole_60 : decode cL_isWhole 60 = .ok (.iload 9, 2) := by decide +kernel
theorem dL_isWhole_62 : decode cL_isWhole 62 = .ok (.invokestatic 364, 3) := by decide +kernel
theorem dL_isWhole_65 : decode cL_isWhole 65 = .ok (.iadd, 1) := by decide +kernel
theorem dL_isWhole_66 : decode cL_isWhole 66 = .ok (.istore 5, 2) := by decide +kernel
theorem dL_isWhole_68 : decode cL_isWhole 68 = .ok (.iload 6, 2) := by decide +kernel
theorem dL_isWhole_70 : decode cL_isWhole 70 = .ok (.aload_n 0, 1) := by decide +kernel
theorem dL_isWhole_71 : decode cL_isWhole 71 = .ok (.iload 9, 2) := by decide +kernel
theorem dL_isWhole_73 : decode cL_isWhole 73 = .ok (.invokestatic 248, 3) := by decide +kernel
theorem dL_isWhole_76 : decode cL_isWhole 76 = .ok (.iadd, 1) := by decide +kernel
theorem dL_isWhole_77 : decode cL_isWhole 77 = .ok (.istore 6, 2) := by decide +kernel
theorem dL_isWhole_79 : decode cL_isWhole 79 = .ok (.iload 7, 2) := by decide +kernel
theorem dL_isWhole_81 : decode cL_isWhole 81 = .ok (.aload_n 0, 1) := by decide +kernel
theorem dL_isWhole_82 : decode cL_isWhole 82 = .ok (.iload 9, 2) := by decide +kernel
theorem dL_isWhole_84 : decode cL_isWhole 84 = .ok (.invokestatic 238, 3) := by decide +kernel
theorem dL_isWhole_87 : decode cL_isWhole 87 = .ok (.iadd, 1) := by decide +kernel
theorem dL_isWhole_88 : decode cL_isWhole 88 = .ok (.istore 7, 2) := by decide +kernel
theorem dL_isWhole_90 : decode cL_isWhole 90 = .ok (.iload 8, 2) := by decide +kernel
theorem dL_isWhole_92 : decode cL_isWhole 92 = .ok (.iconst 0, 1) := by decide +kernel
theorem dL_isWhole_93 : decode cL_isWhole 93 = .ok (.aload_n 0, 1) := by decide +kernel
theorem dL_isWhole_94 : decode cL_isWhole 94 = .ok (.iload 9, 2) := by decide +kernel
theorem dL_isWhole_96 : decode cL_isWhole 96 = .ok (.invokestatic 350, 3) := by decide +kernel
theorem dL_isWhole_99 : decode cL_isWhole 99 = .ok (.invokestatic 366, 3) := by decide +kernel
theorem dL_isWhole_102 : decode cL_isWhole 102 = .ok (.iadd, 1) := by decide +kernel
theorem dL_isWhole_103 : decode cL_isWhole 103 = .ok (.istore 8, 2) := by decide +kernel
theorem dL_isWhole_105 : decode cL_isWhole 105 = .ok (.aload_n 0, 1) := by decide +kernel
theorem dL_isWhole_106 : decode cL_isWhole 106 = .ok (.iload 9, 2) := by decide +kernel
theorem dL_isWhole_108 : decode cL_isWhole 108 = .ok (.invokestatic 377, 3) := by decide +kernel
theorem dL_isWhole_111 : decode cL_isWhole 111 = .ok (.istore 10, 2) := by decide +kernel
theorem dL_isWhole_113 : decode cL_isWhole 113 = .ok (.iload 9, 2) := by decide +kernel
theorem dL_isWhole_115 : decode cL_isWhole 115 = .ok (.ifCond .ne 8, 3) := by decide +kernel
theorem dL_isWhole_118 : decode cL_isWhole 118 = .ok (.iload 10, 2) := by decide +kernel
theorem dL_isWhole_120 : decode cL_isWhole 120 = .ok (.goto 11, 3) := by decide +kernel
theorem dL_isWhole_123 : decode cL_isWhole 123 = .ok (.aload_n 0, 1) := by decide +kernel
theorem dL_isWhole_124 : decode cL_isWhole 124 = .ok (.iload 9, 2) := by decide +kernel
theorem dL_isWhole_126 : decode cL_isWhole 126 = .ok (.iconst 1, 1) := by decide +kernel
theorem dL_isWhole_127 : decode cL_isWhole 127 = .ok (.isub, 1) := by decide +kernel
theorem dL_isWhole_128 : decode cL_isWhole 128 = .ok (.invokestatic 377, 3) := by decide +kernel
theorem dL_isWhole_131 : decode cL_isWhole 131 = .ok (.istore 11, 2) := by decide +kernel
theorem dL_isWhole_133 : decode cL_isWhole 133 = .ok (.aload_n 0, 1) := by decide +kernel
theorem dL_isWhole_134 : decode cL_isWhole 134 = .ok (.iload 11, 2) := by decide +kernel
theorem dL_isWhole_136 : decode cL_isWhole 136 = .ok (.invokestatic 238, 3) := by decide +kernel
theorem dL_isWhole_139 : decode cL_isWhole 139 = .ok (.aload_n 0, 1) := by decide +kernel
theorem dL_isWhole_140 : decode cL_isWhole 140 = .ok (.iload 10, 2) := by decide +kernel
theorem dL_isWhole_142 : decode cL_isWhole 142 = .ok (.invokestatic 238, 3) := by decide +kernel
theorem dL_isWhole_145 : decode cL_isWhole 145 = .ok (.if_icmp .gt 33, 3) := by decide +kernel
theorem dL_isWhole_148 : decode cL_isWhole 148 = .ok (.aload_n 0, 1) := by decide +kernel
theorem dL_isWhole_149 : decode cL_isWhole 149 = .ok (.iload 11, 2) := by decide +kernel
theorem dL_isWhole_151 : decode cL_isWhole 151 = .ok (.invokestatic 238, 3) := by decide +kernel
theorem dL_isWhole_154 : decode cL_isWhole 154 = .ok (.aload_n 0, 1) := by decide +kernel
theorem dL_isWhole_155 : decode cL_isWhole 155 = .ok (.iload 10, 2) := by decide +kernel
theorem dL_isWhole_157 : decode cL_isWhole 157 = .ok (.invokestatic 238, 3) := by decide +kernel
theorem dL_isWhole_160 : decode cL_isWhole 160 = .ok (.if_icmp .ne 20, 3) := by decide +kernel
theorem dL_isWhole_163 : decode cL_isWhole 163 = .ok (.aload_n 0, 1) := by decide +kernel
theorem dL_isWhole_164 : decode cL_isWhole 164 = .ok (.iload 11, 2) := by decide +kernel
theorem dL_isWhole_166 : decode cL_isWhole 166 = .ok (.invokestatic 248, 3) := by decide +kernel
theorem dL_isWhole_169 : decode cL_isWhole 169 = .ok (.aload_n 0, 1) := by decide +kernel
theorem dL_isWhole_170 : decode cL_isWhole 170 = .ok (.iload 10, 2) := by decide +kernel
theorem dL_isWhole_172 : decode cL_isWhole 172 = .ok (.invokestatic 248, 3) := by decide +kernel
theorem dL_isWhole_175 : decode cL_isWhole 175 = .ok (.if_icmp .le 5, 3) := by decide +kernel
theorem dL_isWhole_178 : decode cL_isWhole 178 = .ok (.iconst 0, 1) := by decide +kernel
theorem dL_isWhole_179 : decode cL_isWhole 179 = .ok (.ireturn, 1) := by decide +kernel
theorem dL_isWhole_180 : decode cL_isWhole 180 = .ok (.iinc 9 1, 3) := by decide +kernel
theorem dL_isWhole_183 : decode cL_isWhole 183 = .ok (.goto (-162), 3) := by decide +kernel
theorem dL_isWhole_186 : decode cL_isWhole 186 = .ok (.aload_n 0, 1) := by decide +kernel
theorem dL_isWhole_187 : decode cL_isWhole 187 = .ok (.invokevirtual 228, 3) := by decide +kernel
theorem dL_isWhole_190 : decode cL_isWhole 190 = .ok (.iload 8, 2) := by decide +kernel
theorem dL_isWhole_192 : decode cL_isWhole 192 = .ok (.iadd, 1) := by decide +kernel
theorem dL_isWhole_193 : decode cL_isWhole 193 = .ok (.istore 9, 2) := by decide +kernel
theorem dL_isWhole_195 : decode cL_isWhole 195 = .ok (.iconst 0, 1) := by decide +kernel
theorem dL_isWhole_196 : decode cL_isWhole 196 = .ok (.istore 10, 2) := by decide +kernel
theorem dL_isWhole_198 : decode cL_isWhole 198 = .ok (.iconst 0, 1) := by decide +kernel
theorem dL_isWhole_199 : decode cL_isWhole 199 = .ok (.istore 11, 2) := by decide +kernel
theorem dL_isWhole_201 : decode cL_isWhole 201 = .ok (.iload 11, 2) := by decide +kernel
theorem dL_isWhole_203 : decode cL_isWhole 203 = .ok (.aload_n 0, 1) := by decide +kernel
theorem dL_isWhole_204 : decode cL_isWhole 204 = .ok (.invokevirtual 217, 3) := by decide +kernel
theorem dL_isWhole_207 : decode cL_isWhole 207 = .ok (.if_icmp .ge 135, 3) := by decide +kernel
theorem dL_isWhole_210 : decode cL_isWhole 210 = .ok (.iload_n 3, 1) := by decide +kernel
theorem dL_isWhole_211 : decode cL_isWhole 211 = .ok (.ifCond .ne 17, 3) := by decide +kernel
theorem dL_isWhole_214 : decode cL_isWhole 214 = .ok (.iload 11, 2) := by decide +kernel
theorem dL_isWhole_216 : decode cL_isWhole 216 = .ok (.aload_n 1, 1) := by decide +kernel
theorem dL_isWhole_217 : decode cL_isWhole 217 = .ok (.iload_n 2, 1) := by decide +kernel
theorem dL_isWhole_218 : decode cL_isWhole 218 = .ok (.iconst 2, 1) := by decide +kernel
theorem dL_isWhole_219 : decode cL_isWhole 219 = .ok (.iadd, 1) := by decide +kernel
theorem dL_isWhole_220 : decode cL_isWhole 220 = .ok (.bipush 8, 2) := by decide +kernel
theorem dL_isWhole_222 : decode cL_isWhole 222 = .ok (.invokestatic 213, 3) := by decide +kernel
theorem dL_isWhole_225 : decode cL_isWhole 225 = .ok (.if_icmp .ne 14, 3) := by decide +kernel
theorem dL_isWhole_228 : decode cL_isWhole 228 = .ok (.aload_n 0, 1) := by decide +kernel
theorem dL_isWhole_229 : decode cL_isWhole 229 = .ok (.iload 11, 2) := by decide +kernel
theorem dL_isWhole_231 : decode cL_isWhole 231 = .ok (.invokestatic 379, 3) := by decide +kernel
theorem dL_isWhole_234 : decode cL_isWhole 234 = .ok (.ifCond .ne 5, 3) := by decide +kernel
theorem dL_isWhole_237 : decode cL_isWhole 237 = .ok (.iconst 0, 1) := by decide +kernel
theorem dL_isWhole_238 : decode cL_isWhole 238 = .ok (.ireturn, 1) := by decide +kernel
theorem dL_isWhole_239 : decode cL_isWhole 239 = .ok (.iload 9, 2) := by decide +kernel
theorem dL_isWhole_241 : decode cL_isWhole 241 = .ok (.aload_n 0, 1) := by decide +kernel
theorem dL_isWhole_242 : decode cL_isWhole 242 = .ok (.iload 11, 2) := by decide +kernel
theorem dL_isWhole_244 : decode cL_isWhole 244 = .ok (.invokestatic 356, 3) := by decide +kernel
theorem dL_isWhole_247 : decode cL_isWhole 247 = .ok (.iadd, 1) := by decide +kernel
theorem dL_isWhole_248 : decode cL_isWhole 248 = .ok (.istore 9, 2) := by decide +kernel
theorem dL_isWhole_250 : decode cL_isWhole 250 = .ok (.iload 10, 2) := by decide +kernel
theorem dL_isWhole_252 : decode cL_isWhole 252 = .ok (.aload_n 0, 1) := by decide +kernel
theorem dL_isWhole_253 : decode cL_isWhole 253 = .ok (.iload 11, 2) := by decide +kernel
theorem dL_isWhole_255 : decode cL_isWhole 255 = .ok (.invokestatic 358, 3) := by decide +kernel
theorem dL_isWhole_258 : decode cL_isWhole 258 = .ok (.iadd, 1) := by decide +kernel
theorem dL_isWhole_259 : decode cL_isWhole 259 = .ok (.istore 10, 2) := by decide +kernel
theorem dL_isWhole_261 : decode cL_isWhole 261 = .ok (.aload_n 0, 1) := by decide +kernel
theorem dL_isWhole_262 : decode cL_isWhole 262 = .ok (.iload 11, 2) := by decide +kernel
theorem dL_isWhole_264 : decode cL_isWhole 264 = .ok (.invokestatic 382, 3) := by decide +kernel
theorem dL_isWhole_267 : decode cL_isWhole 267 = .ok (.istore 12, 2) := by decide +kernel
theorem dL_isWhole_269 : decode cL_isWhole 269 = .ok (.iload 11, 2) := by decide +kernel
theorem dL_isWhole_271 : decode cL_isWhole 271 = .ok (.ifCond .ne 8, 3) := by decide +kernel
theorem dL_isWhole_274 : decode cL_isWhole 274 = .ok (.iload 12, 2) := by decide +kernel
theorem dL_isWhole_276 : decode cL_isWhole 276 = .ok (.goto 11, 3) := by decide +kernel
theorem dL_isWhole_279 : decode cL_isWhole 279 = .ok (.aload_n 0, 1) := by decide +kernel
theorem dL_isWhole_280 : decode cL_isWhole 280 = .ok (.iload 11, 2) := by decide +kernel
theorem dL_isWhole_282 : decode cL_isWhole 282 = .ok (.iconst 1, 1) := by decide +kernel
theorem dL_isWhole_283 : decode cL_isWhole 283 = .ok (.isub, 1) := by decide +kernel
theorem dL_isWhole_284 : decode cL_isWhole 284 = .ok (.invokestatic 382, 3) := by decide +kernel
theorem dL_isWhole_287 : decode cL_isWhole 287 = .ok (.istore 13, 2) := by decide +kernel
theorem dL_isWhole_289 : decode cL_isWhole 289 = .ok (.aload_n 0, 1) := by decide +kernel
theorem dL_isWhole_290 : decode cL_isWhole 290 = .ok (.iload 13, 2) := by decide +kernel
theorem dL_isWhole_292 : decode cL_isWhole 292 = .ok (.invokestatic 356, 3) := by decide +kernel
theorem dL_isWhole_295 : decode cL_isWhole 295 = .ok (.aload_n 0, 1) := by decide +kernel
theorem dL_isWhole_296 : decode cL_isWhole 296 = .ok (.iload 12, 2) := by decide +kernel
theorem dL_isWhole_298 : decode cL_isWhole 298 = .ok (.invokestatic 356, 3) := by decide +kernel
theorem dL_isWhole_301 : decode cL_isWhole 301 = .ok (.if_icmp .lt 33, 3) := by decide +kernel
theorem dL_isWhole_304 : decode cL_isWhole 304 = .ok (.aload_n 0, 1) := by decide +kernel
theorem dL_isWhole_305 : decode cL_isWhole 305 = .ok (.iload 13, 2) := by decide +kernel
theorem dL_isWhole_307 : decode cL_isWhole 307 = .ok (.invokestatic 356, 3) := by decide +kernel
theorem dL_isWhole_310 : decode cL_isWhole 310 = .ok (.aload_n 0, 1) := by decide +kernel
theorem dL_isWhole_311 : decode cL_isWhole 311 = .ok (.iload 12, 2) := by decide +kernel
theorem dL_isWhole_313 : decode cL_isWhole 313 = .ok (.invokestatic 356, 3) := by decide +kernel
theorem dL_isWhole_316 : decode cL_isWhole 316 = .ok (.if_icmp .ne 20, 3) := by decide +kernel
theorem dL_isWhole_319 : decode cL_isWhole 319 = .ok (.aload_n 0, 1) := by decide +kernel
theorem dL_isWhole_320 : decode cL_isWhole 320 = .ok (.iload 13, 2) := by decide +kernel
theorem dL_isWhole_322 : decode cL_isWhole 322 = .ok (.invokestatic 358, 3) := by decide +kernel
theorem dL_isWhole_325 : decode cL_isWhole 325 = .ok (.aload_n 0, 1) := by decide +kernel
theorem dL_isWhole_326 : decode cL_isWhole 326 = .ok (.iload 12, 2) := by decide +kernel
theorem dL_isWhole_328 : decode cL_isWhole 328 = .ok (.invokestatic 358, 3) := by decide +kernel
theorem dL_isWhole_331 : decode cL_isWhole 331 = .ok (.if_icmp .le 5, 3) := by decide +kernel
theorem dL_isWhole_334 : decode cL_isWhole 334 = .ok (.iconst 0, 1) := by decide +kernel
theorem dL_isWhole_335 : decode cL_isWhole 335 = .ok (.ireturn, 1) := by decide +kernel
theorem dL_isWhole_336 : decode cL_isWhole 336 = .ok (.iinc 11 1, 3) := by decide +kernel
theorem dL_isWhole_339 : decode cL_isWhole 339 = .ok (.goto (-138), 3) := by decide +kernel
theorem dL_isWhole_342 : decode cL_isWhole 342 = .ok (.aload_n 1, 1) := by decide +kernel
theorem dL_isWhole_343 : decode cL_isWhole 343 = .ok (.iload_n 2, 1) := by decide +kernel
theorem dL_isWhole_344 : decode cL_isWhole 344 = .ok (.iconst 3, 1) := by decide +kernel
theorem dL_isWhole_345 : decode cL_isWhole 345 = .ok (.iadd, 1) := by decide +kernel
theorem dL_isWhole_346 : decode cL_isWhole 346 = .ok (.bipush 6, 2) := by decide +kernel
theorem dL_isWhole_348 : decode cL_isWhole 348 = .ok (.invokestatic 213, 3) := by decide +kernel
theorem dL_isWhole_351 : decode cL_isWhole 351 = .ok (.istore 11, 2) := by decide +kernel
theorem dL_isWhole_353 : decode cL_isWhole 353 = .ok (.iconst 0, 1) := by decide +kernel
theorem dL_isWhole_354 : decode cL_isWhole 354 = .ok (.istore 12, 2) := by decide +kernel
theorem dL_isWhole_356 : decode cL_isWhole 356 = .ok (.iload 12, 2) := by decide +kernel
theorem dL_isWhole_358 : decode cL_isWhole 358 = .ok (.bipush 6, 2) := by decide +kernel
theorem dL_isWhole_360 : decode cL_isWhole 360 = .ok (.if_icmp .ge 41, 3) := by decide +kernel
theorem dL_isWhole_363 : decode cL_isWhole 363 = .ok (.aload_n 0, 1) := by decide +kernel
theorem dL_isWhole_364 : decode cL_isWhole 364 = .ok (.iload 11, 2) := by decide +kernel
theorem dL_isWhole_366 : decode cL_isWhole 366 = .ok (.iload 12, 2) := by decide +kernel
theorem dL_isWhole_368 : decode cL_isWhole 368 = .ok (.invokestatic 362, 3) := by decide +kernel
theorem dL_isWhole_371 : decode cL_isWhole 371 = .ok (.aload_n 0, 1) := by decide +kernel
theorem dL_isWhole_372 : decode cL_isWhole 372 = .ok (.iload 11, 2) := by decide +kernel
theorem dL_isWhole_374 : decode cL_isWhole 374 = .ok (.iload 12, 2) := by decide +kernel
theorem dL_isWhole_376 : decode cL_isWhole 376 = .ok (.invokestatic 384, 3) := by decide +kernel
theorem dL_isWhole_379 : decode cL_isWhole 379 = .ok (.if_icmp .ne 14, 3) := by decide +kernel
theorem dL_isWhole_382 : decode cL_isWhole 382 = .ok (.aload_n 0, 1) := by decide +kernel
theorem dL_isWhole_383 : decode cL_isWhole 383 = .ok (.iload 11, 2) := by decide +kernel
theorem dL_isWhole_385 : decode cL_isWhole 385 = .ok (.iload 12, 2) := by decide +kernel
theorem dL_isWhole_387 : decode cL_isWhole 387 = .ok (.invokestatic 362, 3) := by decide +kernel
theorem dL_isWhole_390 : decode cL_isWhole 390 = .ok (.ifCond .ge 5, 3) := by decide +kernel
theorem dL_isWhole_393 : decode cL_isWhole 393 = .ok (.iconst 0, 1) := by decide +kernel
theorem dL_isWhole_394 : decode cL_isWhole 394 = .ok (.ireturn, 1) := by decide +kernel
theorem dL_isWhole_395 : decode cL_isWhole 395 = .ok (.iinc 12 1, 3) := by decide +kernel
theorem dL_isWhole_398 : decode cL_isWhole 398 = .ok (.goto (-42), 3) := by decide +kernel
theorem dL_isWhole_401 : decode cL_isWhole 401 = .ok (.iconst 1, 1) := by decide +kernel
theorem dL_isWhole_402 : decode cL_isWhole 402 = .ok (.aload_n 1, 1) := by decide +kernel
theorem dL_isWhole_403 : decode cL_isWhole 403 = .ok (.iload_n 2, 1) := by decide +kernel
theorem dL_isWhole_404 : decode cL_isWhole 404 = .ok (.iconst 4, 1) := by decide +kernel
theorem dL_isWhole_405 : decode cL_isWhole 405 = .ok (.iadd, 1) := by decide +kernel
theorem dL_isWhole_406 : decode cL_isWhole 406 = .ok (.bipush 12, 2) := by decide +kernel
theorem dL_isWhole_408 : decode cL_isWhole 408 = .ok (.invokestatic 213, 3) := by decide +kernel
theorem dL_isWhole_411 : decode cL_isWhole 411 = .ok (.iadd, 1) := by decide +kernel
theorem dL_isWhole_412 : decode cL_isWhole 412 = .ok (.istore 12, 2) := by decide +kernel
theorem dL_isWhole_414 : decode cL_isWhole 414 = .ok (.aload_n 0, 1) := by decide +kernel
theorem dL_isWhole_415 : decode cL_isWhole 415 = .ok (.iload 12, 2) := by decide +kernel
theorem dL_isWhole_417 : decode cL_isWhole 417 = .ok (.invokestatic 226, 3) := by decide +kernel
theorem dL_isWhole_420 : decode cL_isWhole 420 = .ok (.istore 13, 2) := by decide +kernel
theorem dL_isWhole_422 : decode cL_isWhole 422 = .ok (.aload_n 0, 1) := by decide +kernel
theorem dL_isWhole_423 : decode cL_isWhole 423 = .ok (.iload 12, 2) := by decide +kernel
theorem dL_isWhole_425 : decode cL_isWhole 425 = .ok (.invokestatic 386, 3) := by decide +kernel
theorem dL_isWhole_428 : decode cL_isWhole 428 = .ok (.iload 13, 2) := by decide +kernel
theorem dL_isWhole_430 : decode cL_isWhole 430 = .ok (.if_icmp .ne 31, 3) := by decide +kernel
theorem dL_isWhole_433 : decode cL_isWhole 433 = .ok (.iload 13, 2) := by decide +kernel
theorem dL_isWhole_435 : decode cL_isWhole 435 = .ok (.ifCond .lt 26, 3) := by decide +kernel
theorem dL_isWhole_438 : decode cL_isWhole 438 = .ok (.iload 12, 2) := by decide +kernel
theorem dL_isWhole_440 : decode cL_isWhole 440 = .ok (.iconst 1, 1) := by decide +kernel
theorem dL_isWhole_441 : decode cL_isWhole 441 = .ok (.if_icmp .eq 16, 3) := by decide +kernel
theorem dL_isWhole_444 : decode cL_isWhole 444 = .ok (.aload_n 0, 1) := by decide +kernel
theorem dL_isWhole_445 : decode cL_isWhole 445 = .ok (.iload 12, 2) := by decide +kernel
theorem dL_isWhole_447 : decode cL_isWhole 447 = .ok (.iconst 1, 1) := by decide +kernel
theorem dL_isWhole_448 : decode cL_isWhole 448 = .ok (.isub, 1) := by decide +kernel
theorem dL_isWhole_449 : decode cL_isWhole 449 = .ok (.invokestatic 226, 3) := by decide +kernel
theorem dL_isWhole_452 : decode cL_isWhole 452 = .ok (.iload 13, 2) := by decide +kernel
theorem dL_isWhole_454 : decode cL_isWhole 454 = .ok (.if_icmp .gt 7, 3) := by decide +kernel
theorem dL_isWhole_457 : decode cL_isWhole 457 = .ok (.iconst 1, 1) := by decide +kernel
theorem dL_isWhole_458 : decode cL_isWhole 458 = .ok (.goto 4, 3) := by decide +kernel
theorem dL_isWhole_461 : decode cL_isWhole 461 = .ok (.iconst 0, 1) := by decide +kernel
theorem dL_isWhole_462 : decode cL_isWhole 462 = .ok (.istore 14, 2) := by decide +kernel
theorem dL_isWhole_464 : decode cL_isWhole 464 = .ok (.aload_n 0, 1) := by decide +kernel
theorem dL_isWhole_465 : decode cL_isWhole 465 = .ok (.invokestatic 388, 3) := by decide +kernel
theorem dL_isWhole_468 : decode cL_isWhole 468 = .ok (.iload 4, 2) := by decide +kernel
theorem dL_isWhole_470 : decode cL_isWhole 470 = .ok (.ifCond .ne 9, 3) := by decide +kernel
theorem dL_isWhole_473 : decode cL_isWhole 473 = .ok (.ldc2_w 140, 3) := by decide +kernel
theorem dL_isWhole_476 : decode cL_isWhole 476 = .ok (.goto 10, 3) := by decide +kernel
theorem dL_isWhole_479 : decode cL_isWhole 479 = .ok (.iload 7, 2) := by decide +kernel
theorem dL_isWhole_481 : decode cL_isWhole 481 = .ok (.i2d, 1) := by decide +kernel
theorem dL_isWhole_482 : decode cL_isWhole 482 = .ok (.iload 4, 2) := by decide +kernel
theorem dL_isWhole_484 : decode cL_isWhole 484 = .ok (.i2d, 1) := by decide +kernel
theorem dL_isWhole_485 : decode cL_isWhole 485 = .ok (.ddiv, 1) := by decide +kernel
theorem dL_isWhole_486 : decode cL_isWhole 486 = .ok (.dcmp .l, 1) := by decide +kernel
theorem dL_isWhole_487 : decode cL_isWhole 487 = .ok (.ifCond .ne 32, 3) := by decide +kernel
theorem dL_isWhole_490 : decode cL_isWhole 490 = .ok (.aload_n 0, 1) := by decide +kernel
theorem dL_isWhole_491 : decode cL_isWhole 491 = .ok (.invokestatic 391, 3) := by decide +kernel
theorem dL_isWhole_494 : decode cL_isWhole 494 = .ok (.iload 4, 2) := by decide +kernel
theorem dL_isWhole_496 : decode cL_isWhole 496 = .ok (.ifCond .ne 8, 3) := by decide +kernel
theorem dL_isWhole_499 : decode cL_isWhole 499 = .ok (.ldc 146, 2) := by decide +kernel
theorem dL_isWhole_501 : decode cL_isWhole 501 = .ok (.goto 10, 3) := by decide +kernel
theorem dL_isWhole_504 : decode cL_isWhole 504 = .ok (.iload 6, 2) := by decide +kernel
theorem dL_isWhole_506 : decode cL_isWhole 506 = .ok (.i2f, 1) := by decide +kernel
theorem dL_isWhole_507 : decode cL_isWhole 507 = .ok (.iload 4, 2) := by decide +kernel
theorem dL_isWhole_509 : decode cL_isWhole 509 = .ok (.i2f, 1) := by decide +kernel
theorem dL_isWhole_510 : decode cL_isWhole 510 = .ok (.fdiv, 1) := by decide +kernel
theorem dL_isWhole_511 : decode cL_isWhole 511 = .ok (.fcmp .l, 1) := by decide +kernel
theorem dL_isWhole_512 : decode cL_isWhole 512 = .ok (.ifCond .ne 7, 3) := by decide +kernel
theorem dL_isWhole_515 : decode cL_isWhole 515 = .ok (.iconst 1, 1) := by decide +kernel
theorem dL_isWhole_516 : decode cL_isWhole 516 = .ok (.goto 4, 3) := by decide +kernel
theorem dL_isWhole_519 : decode cL_isWhole 519 = .ok (.iconst 0, 1) := by decide +kernel
theorem dL_isWhole_520 : decode cL_isWhole 520 = .ok (.istore 15, 2) := by decide +kernel
theorem dL_isWhole_522 : decode cL_isWhole 522 = .ok (.aload_n 0, 1) := by decide +kernel
theorem dL_isWhole_523 : decode cL_isWhole 523 = .ok (.invokevirtual 394, 3) := by decide +kernel
theorem dL_isWhole_526 : decode cL_isWhole 526 = .ok (.iload 5, 2) := by decide +kernel
theorem dL_isWhole_528 : decode cL_isWhole 528 = .ok (.if_icmp .ne 67, 3) := by decide +kernel
theorem dL_isWhole_531 : decode cL_isWhole 531 = .ok (.aload_n 0, 1) := by decide +kernel
theorem dL_isWhole_532 : decode cL_isWhole 532 = .ok (.invokevirtual 397, 3) := by decide +kernel
theorem dL_isWhole_535 : decode cL_isWhole 535 = .ok (.iload 8, 2) := by decide +kernel
theorem dL_isWhole_537 : decode cL_isWhole 537 = .ok (.if_icmp .ne 58, 3) := by decide +kernel
theorem dL_isWhole_540 : decode cL_isWhole 540 = .ok (.aload_n 0, 1) := by decide +kernel
theorem dL_isWhole_541 : decode cL_isWhole 541 = .ok (.invokevirtual 400, 3) := by decide +kernel
theorem dL_isWhole_544 : decode cL_isWhole 544 = .ok (.iload 9, 2) := by decide +kernel
theorem dL_isWhole_546 : decode cL_isWhole 546 = .ok (.if_icmp .ne 49, 3) := by decide +kernel
theorem dL_isWhole_549 : decode cL_isWhole 549 = .ok (.aload_n 0, 1) := by decide +kernel
theorem dL_isWhole_550 : decode cL_isWhole 550 = .ok (.invokevirtual 335, 3) := by decide +kernel
theorem dL_isWhole_553 : decode cL_isWhole 553 = .ok (.iload 9, 2) := by decide +kernel
theorem dL_isWhole_555 : decode cL_isWhole 555 = .ok (.if_icmp .ne 40, 3) := by decide +kernel
theorem dL_isWhole_558 : decode cL_isWhole 558 = .ok (.aload_n 0, 1) := by decide +kernel
theorem dL_isWhole_559 : decode cL_isWhole 559 = .ok (.invokevirtual 258, 3) := by decide +kernel
theorem dL_isWhole_562 : decode cL_isWhole 562 = .ok (.iload 10, 2) := by decide +kernel
theorem dL_isWhole_564 : decode cL_isWhole 564 = .ok (.if_icmp .ne 31, 3) := by decide +kernel
theorem dL_isWhole_567 : decode cL_isWhole 567 = .ok (.iload 4, 2) := by decide +kernel
theorem dL_isWhole_569 : decode cL_isWhole 569 = .ok (.bipush 10, 2) := by decide +kernel
theorem dL_isWhole_571 : decode cL_isWhole 571 = .ok (.if_icmp .gt 24, 3) := by decide +kernel
theorem dL_isWhole_574 : decode cL_isWhole 574 = .ok (.aload_n 0, 1) := by decide +kernel
theorem dL_isWhole_575 : decode cL_isWhole 575 = .ok (.invokevirtual 217, 3) := by decide +kernel
theorem dL_isWhole_578 : decode cL_isWhole 578 = .ok (.bipush 8, 2) := by decide +kernel
theorem dL_isWhole_580 : decode cL_isWhole 580 = .ok (.if_icmp .gt 15, 3) := by decide +kernel
theorem dL_isWhole_583 : decode cL_isWhole 583 = .ok (.aload_n 0, 1) := by decide +kernel
theorem dL_isWhole_584 : decode cL_isWhole 584 = .ok (.invokevirtual 267, 3) := by decide +kernel
theorem dL_isWhole_587 : decode cL_isWhole 587 = .ok (.iconst 4, 1) := by decide +kernel
theorem dL_isWhole_588 : decode cL_isWhole 588 = .ok (.if_icmp .gt 7, 3) := by decide +kernel
theorem dL_isWhole_591 : decode cL_isWhole 591 = .ok (.iconst 1, 1) := by decide +kernel
theorem dL_isWhole_592 : decode cL_isWhole 592 = .ok (.goto 4, 3) := by decide +kernel
theorem dL_isWhole_595 : decode cL_isWhole 595 = .ok (.iconst 0, 1) := by decide +kernel
theorem dL_isWhole_596 : decode cL_isWhole 596 = .ok (.istore 16, 2) := by decide +kernel
theorem dL_isWhole_598 : decode cL_isWhole 598 = .ok (.iload 14, 2) := by decide +kernel
theorem dL_isWhole_600 : decode cL_isWhole 600 = .ok (.ifCond .eq 52, 3) := by decide +kernel
theorem dL_isWhole_603 : decode cL_isWhole 603 = .ok (.iload 15, 2) := by decide +kernel
theorem dL_isWhole_605 : decode cL_isWhole 605 = .ok (.ifCond .eq 47, 3) := by decide +kernel
theorem dL_isWhole_608 : decode cL_isWhole 608 = .ok (.iload 16, 2) := by decide +kernel
theorem dL_isWhole_610 : decode cL_isWhole 610 = .ok (.ifCond .eq 42, 3) := by decide +kernel
theorem dL_isWhole_613 : decode cL_isWhole 613 = .ok (.aload_n 0, 1) := by decide +kernel
theorem dL_isWhole_614 : decode cL_isWhole 614 = .ok (.iload 4, 2) := by decide +kernel
theorem dL_isWhole_616 : decode cL_isWhole 616 = .ok (.invokestatic 377, 3) := by decide +kernel
theorem dL_isWhole_619 : decode cL_isWhole 619 = .ok (.bipush (-75), 2) := by decide +kernel
theorem dL_isWhole_621 : decode cL_isWhole 621 = .ok (.if_icmp .ne 31, 3) := by decide +kernel
theorem dL_isWhole_624 : decode cL_isWhole 624 = .ok (.aload_n 0, 1) := by decide +kernel
theorem dL_isWhole_625 : decode cL_isWhole 625 = .ok (.aload_n 0, 1) := by decide +kernel
theorem dL_isWhole_626 : decode cL_isWhole 626 = .ok (.invokevirtual 217, 3) := by decide +kernel
theorem dL_isWhole_629 : decode cL_isWhole 629 = .ok (.invokestatic 382, 3) := by decide +kernel
theorem dL_isWhole_632 : decode cL_isWhole 632 = .ok (.bipush (-75), 2) := by decide +kernel
theorem dL_isWhole_634 : decode cL_isWhole 634 = .ok (.if_icmp .ne 18, 3) := by decide +kernel
theorem dL_isWhole_637 : decode cL_isWhole 637 = .ok (.iload_n 3, 1) := by decide +kernel
theorem dL_isWhole_638 : decode cL_isWhole 638 = .ok (.ifCond .eq 10, 3) := by decide +kernel
theorem dL_isWhole_641 : decode cL_isWhole 641 = .ok (.aload_n 0, 1) := by decide +kernel
theorem dL_isWhole_642 : decode cL_isWhole 642 = .ok (.invokevirtual 403, 3) := by decide +kernel
theorem dL_isWhole_645 : decode cL_isWhole 645 = .ok (.ifCond .eq 7, 3) := by decide +kernel
theorem dL_isWhole_648 : decode cL_isWhole 648 = .ok (.iconst 1, 1) := by decide +kernel
theorem dL_isWhole_649 : decode cL_isWhole 649 = .ok (.goto 4, 3) := by decide +kernel
theorem dL_isWhole_652 : decode cL_isWhole 652 = .ok (.iconst 0, 1) := by decide +kernel
theorem dL_isWhole_653 : decode cL_isWhole 653 = .ok (.ireturn, 1) := by decide +kernel
theorem dL_isKept_0 : decode cL_isKept 0 = .ok (.aload_n 0, 1) := by decide +kernel
theorem dL_isKept_1 : decode cL_isKept 1 = .ok (.invokevirtual 407, 3) := by decide +kernel
theorem dL_isKept_4 : decode cL_isKept 4 = .ok (.istore_n 3, 1) := by decide +kernel
theorem dL_isKept_5 : decode cL_isKept 5 = .ok (.bipush 8, 2) := by decide +kernel
theorem dL_isKept_7 : decode cL_isKept 7 = .ok (.iload_n 2, 1) := by decide +kernel
theorem dL_isKept_8 : decode cL_isKept 8 = .ok (.invokestatic 410, 3) := by decide +kernel
theorem dL_isKept_11 : decode cL_isKept 11 = .ok (.istore 4, 2) := by decide +kernel
theorem dL_isKept_13 : decode cL_isKept 13 = .ok (.iload_n 2, 1) := by decide +kernel
theorem dL_isKept_14 : decode cL_isKept 14 = .ok (.iconst 1, 1) := by decide +kernel
theorem dL_isKept_15 : decode cL_isKept 15 = .ok (.isub, 1) := by decide +kernel
theorem dL_isKept_16 : decode cL_isKept 16 = .ok (.istore 5, 2) := by decide +kernel
theorem dL_isKept_18 : decode cL_isKept 18 = .ok (.iload 4, 2) := by decide +kernel
theorem dL_isKept_20 : decode cL_isKept 20 = .ok (.ifCond .le 35, 3) := by decide +kernel
theorem dL_isKept_23 : decode cL_isKept 23 = .ok (.iinc 4 (-1), 3) := by decide +kernel
theorem dL_isKept_26 : decode cL_isKept 26 = .ok (.aload_n 0, 1) := by decide +kernel
theorem dL_isKept_27 : decode cL_isKept 27 = .ok (.invokestatic 413, 3) := by decide +kernel
theorem dL_isKept_30 : decode cL_isKept 30 = .ok (.iload 4, 2) := by decide +kernel
theorem dL_isKept_32 : decode cL_isKept 32 = .ok (.if_icmp .ne 15, 3) := by decide +kernel
theorem dL_isKept_35 : decode cL_isKept 35 = .ok (.aload_n 0, 1) := by decide +kernel
theorem dL_isKept_36 : decode cL_isKept 36 = .ok (.invokestatic 209, 3) := by decide +kernel
theorem dL_isKept_39 : decode cL_isKept 39 = .ok (.aload_n 1, 1) := by decide +kernel
theorem dL_isKept_40 : decode cL_isKept 40 = .ok (.iload 5, 2) := by decide +kernel
theorem dL_isKept_42 : decode cL_isKept 42 = .ok (.laload, 1) := by decide +kernel
theorem dL_isKept_43 : decode cL_isKept 43 = .ok (.lcmp, 1) := by decide +kernel
theorem dL_isKept_44 : decode cL_isKept 44 = .ok (.ifCond .eq 5, 3) := by decide +kernel
theorem dL_isKept_47 : decode cL_isKept 47 = .ok (.iconst 0, 1) := by decide +kernel
theorem dL_isKept_48 : decode cL_isKept 48 = .ok (.ireturn, 1) := by decide +kernel
theorem dL_isKept_49 : decode cL_isKept 49 = .ok (.iinc 5 (-1), 3) := by decide +kernel
theorem dL_isKept_52 : decode cL_isKept 52 = .ok (.goto (-34), 3) := by decide +kernel
theorem dL_isKept_55 : decode cL_isKept 55 = .ok (.aload_n 0, 1) := by decide +kernel
theorem dL_isKept_56 : decode cL_isKept 56 = .ok (.invokestatic 413, 3) := by decide +kernel
theorem dL_isKept_59 : decode cL_isKept 59 = .ok (.bipush (-79), 2) := by decide +kernel
theorem dL_isKept_61 : decode cL_isKept 61 = .ok (.if_icmp .ne 35, 3) := by decide +kernel
theorem dL_isKept_64 : decode cL_isKept 64 = .ok (.aload_n 0, 1) := by decide +kernel
theorem dL_isKept_65 : decode cL_isKept 65 = .ok (.invokestatic 415, 3) := by decide +kernel
theorem dL_isKept_68 : decode cL_isKept 68 = .ok (.iload_n 3, 1) := by decide +kernel
theorem dL_isKept_69 : decode cL_isKept 69 = .ok (.if_icmp .ne 27, 3) := by decide +kernel
theorem dL_isKept_72 : decode cL_isKept 72 = .ok (.aload_n 0, 1) := by decide +kernel
theorem dL_isKept_73 : decode cL_isKept 73 = .ok (.invokestatic 209, 3) := by decide +kernel
theorem dL_isKept_76 : decode cL_isKept 76 = .ok (.aload_n 1, 1) := by decide +kernel
theorem dL_isKept_77 : decode cL_isKept 77 = .ok (.iload_n 2, 1) := by decide +kernel
theorem dL_isKept_78 : decode cL_isKept 78 = .ok (.laload, 1) := by decide +kernel
theorem dL_isKept_79 : decode cL_isKept 79 = .ok (.lcmp, 1) := by decide +kernel
theorem dL_isKept_80 : decode cL_isKept 80 = .ok (.ifCond .ne 16, 3) := by decide +kernel
theorem dL_isKept_83 : decode cL_isKept 83 = .ok (.aload_n 0, 1) := by decide +kernel
theorem dL_isKept_84 : decode cL_isKept 84 = .ok (.invokestatic 413, 3) := by decide +kernel
theorem dL_isKept_87 : decode cL_isKept 87 = .ok (.bipush (-79), 2) := by decide +kernel
theorem dL_isKept_89 : decode cL_isKept 89 = .ok (.if_icmp .ne 7, 3) := by decide +kernel
theorem dL_isKept_92 : decode cL_isKept 92 = .ok (.iconst 1, 1) := by decide +kernel
theorem dL_isKept_93 : decode cL_isKept 93 = .ok (.goto 4, 3) := by decide +kernel
theorem dL_isKept_96 : decode cL_isKept 96 = .ok (.iconst 0, 1) := by decide +kernel
theorem dL_isKept_97 : decode cL_isKept 97 = .ok (.ireturn, 1) := by decide +kernel
