/-! decode rows: the law's own methods -/
theorem dL_addBench_0 : decode cL_addBench 0 = .ok (.aload 4, 2) := by decide +kernel
theorem dL_addBench_2 : decode cL_addBench 2 = .ok (.iconst 0, 1) := by decide +kernel
theorem dL_addBench_3 : decode cL_addBench 3 = .ok (.aload_n 0, 1) := by decide +kernel
theorem dL_addBench_4 : decode cL_addBench 4 = .ok (.iload_n 1, 1) := by decide +kernel
theorem dL_addBench_5 : decode cL_addBench 5 = .ok (.iload_n 2, 1) := by decide +kernel
theorem dL_addBench_6 : decode cL_addBench 6 = .ok (.iload_n 3, 1) := by decide +kernel
theorem dL_addBench_7 : decode cL_addBench 7 = .ok (.invokevirtual 7, 3) := by decide +kernel
theorem dL_addBench_10 : decode cL_addBench 10 = .ok (.i2l, 1) := by decide +kernel
theorem dL_addBench_11 : decode cL_addBench 11 = .ok (.lastore, 1) := by decide +kernel
theorem dL_addBench_12 : decode cL_addBench 12 = .ok (.goto 15, 3) := by decide +kernel
theorem dL_addBench_15 : decode cL_addBench 15 = .ok (.astore 5, 2) := by decide +kernel
theorem dL_addBench_17 : decode cL_addBench 17 = .ok (.iconst 1, 1) := by decide +kernel
theorem dL_addBench_18 : decode cL_addBench 18 = .ok (.ireturn, 1) := by decide +kernel
theorem dL_addBench_19 : decode cL_addBench 19 = .ok (.astore 5, 2) := by decide +kernel
theorem dL_addBench_21 : decode cL_addBench 21 = .ok (.iconst 2, 1) := by decide +kernel
theorem dL_addBench_22 : decode cL_addBench 22 = .ok (.ireturn, 1) := by decide +kernel
theorem dL_addBench_23 : decode cL_addBench 23 = .ok (.astore 5, 2) := by decide +kernel
theorem dL_addBench_25 : decode cL_addBench 25 = .ok (.iconst 3, 1) := by decide +kernel
theorem dL_addBench_26 : decode cL_addBench 26 = .ok (.ireturn, 1) := by decide +kernel
theorem dL_addBench_27 : decode cL_addBench 27 = .ok (.iconst 0, 1) := by decide +kernel
theorem dL_addBench_28 : decode cL_addBench 28 = .ok (.ireturn, 1) := by decide +kernel
theorem dL_setRent_0 : decode cL_setRent 0 = .ok (.aload_n 3, 1) := by decide +kernel
theorem dL_setRent_1 : decode cL_setRent 1 = .ok (.iconst 0, 1) := by decide +kernel
theorem dL_setRent_2 : decode cL_setRent 2 = .ok (.aload_n 0, 1) := by decide +kernel
theorem dL_setRent_3 : decode cL_setRent 3 = .ok (.iload_n 1, 1) := by decide +kernel
theorem dL_setRent_4 : decode cL_setRent 4 = .ok (.iload_n 2, 1) := by decide +kernel
theorem dL_setRent_5 : decode cL_setRent 5 = .ok (.invokevirtual 19, 3) := by decide +kernel
theorem dL_setRent_8 : decode cL_setRent 8 = .ok (.i2l, 1) := by decide +kernel
theorem dL_setRent_9 : decode cL_setRent 9 = .ok (.lastore, 1) := by decide +kernel
theorem dL_setRent_10 : decode cL_setRent 10 = .ok (.goto 11, 3) := by decide +kernel
theorem dL_setRent_13 : decode cL_setRent 13 = .ok (.astore 4, 2) := by decide +kernel
theorem dL_setRent_15 : decode cL_setRent 15 = .ok (.iconst 1, 1) := by decide +kernel
theorem dL_setRent_16 : decode cL_setRent 16 = .ok (.ireturn, 1) := by decide +kernel
theorem dL_setRent_17 : decode cL_setRent 17 = .ok (.astore 4, 2) := by decide +kernel
theorem dL_setRent_19 : decode cL_setRent 19 = .ok (.iconst 2, 1) := by decide +kernel
theorem dL_setRent_20 : decode cL_setRent 20 = .ok (.ireturn, 1) := by decide +kernel
theorem dL_setRent_21 : decode cL_setRent 21 = .ok (.iconst 0, 1) := by decide +kernel
theorem dL_setRent_22 : decode cL_setRent 22 = .ok (.ireturn, 1) := by decide +kernel
theorem dL_addFountain_0 : decode cL_addFountain 0 = .ok (.aload 4, 2) := by decide +kernel
theorem dL_addFountain_2 : decode cL_addFountain 2 = .ok (.iconst 0, 1) := by decide +kernel
theorem dL_addFountain_3 : decode cL_addFountain 3 = .ok (.aload_n 0, 1) := by decide +kernel
theorem dL_addFountain_4 : decode cL_addFountain 4 = .ok (.iload_n 1, 1) := by decide +kernel
theorem dL_addFountain_5 : decode cL_addFountain 5 = .ok (.iload_n 2, 1) := by decide +kernel
theorem dL_addFountain_6 : decode cL_addFountain 6 = .ok (.iload_n 3, 1) := by decide +kernel
theorem dL_addFountain_7 : decode cL_addFountain 7 = .ok (.invokevirtual 23, 3) := by decide +kernel
theorem dL_addFountain_10 : decode cL_addFountain 10 = .ok (.i2l, 1) := by decide +kernel
theorem dL_addFountain_11 : decode cL_addFountain 11 = .ok (.lastore, 1) := by decide +kernel
theorem dL_addFountain_12 : decode cL_addFountain 12 = .ok (.goto 15, 3) := by decide +kernel
theorem dL_addFountain_15 : decode cL_addFountain 15 = .ok (.astore 5, 2) := by decide +kernel
theorem dL_addFountain_17 : decode cL_addFountain 17 = .ok (.iconst 1, 1) := by decide +kernel
theorem dL_addFountain_18 : decode cL_addFountain 18 = .ok (.ireturn, 1) := by decide +kernel
theorem dL_addFountain_19 : decode cL_addFountain 19 = .ok (.astore 5, 2) := by decide +kernel
theorem dL_addFountain_21 : decode cL_addFountain 21 = .ok (.iconst 2, 1) := by decide +kernel
theorem dL_addFountain_22 : decode cL_addFountain 22 = .ok (.ireturn, 1) := by decide +kernel
theorem dL_addFountain_23 : decode cL_addFountain 23 = .ok (.astore 5, 2) := by decide +kernel
theorem dL_addFountain_25 : decode cL_addFountain 25 = .ok (.iconst 3, 1) := by decide +kernel
theorem dL_addFountain_26 : decode cL_addFountain 26 = .ok (.ireturn, 1) := by decide +kernel
theorem dL_addFountain_27 : decode cL_addFountain 27 = .ok (.iconst 0, 1) := by decide +kernel
theorem dL_addFountain_28 : decode cL_addFountain 28 = .ok (.ireturn, 1) := by decide +kernel
theorem dL_setLoudness_0 : decode cL_setLoudness 0 = .ok (.aload_n 3, 1) := by decide +kernel
theorem dL_setLoudness_1 : decode cL_setLoudness 1 = .ok (.iconst 0, 1) := by decide +kernel
theorem dL_setLoudness_2 : decode cL_setLoudness 2 = .ok (.aload_n 0, 1) := by decide +kernel
theorem dL_setLoudness_3 : decode cL_setLoudness 3 = .ok (.iload_n 1, 1) := by decide +kernel
theorem dL_setLoudness_4 : decode cL_setLoudness 4 = .ok (.iload_n 2, 1) := by decide +kernel
theorem dL_setLoudness_5 : decode cL_setLoudness 5 = .ok (.invokevirtual 26, 3) := by decide +kernel
theorem dL_setLoudness_8 : decode cL_setLoudness 8 = .ok (.i2l, 1) := by decide +kernel
theorem dL_setLoudness_9 : decode cL_setLoudness 9 = .ok (.lastore, 1) := by decide +kernel
theorem dL_setLoudness_10 : decode cL_setLoudness 10 = .ok (.goto 11, 3) := by decide +kernel
theorem dL_setLoudness_13 : decode cL_setLoudness 13 = .ok (.astore 4, 2) := by decide +kernel
theorem dL_setLoudness_15 : decode cL_setLoudness 15 = .ok (.iconst 1, 1) := by decide +kernel
theorem dL_setLoudness_16 : decode cL_setLoudness 16 = .ok (.ireturn, 1) := by decide +kernel
theorem dL_setLoudness_17 : decode cL_setLoudness 17 = .ok (.astore 4, 2) := by decide +kernel
theorem dL_setLoudness_19 : decode cL_setLoudness 19 = .ok (.iconst 2, 1) := by decide +kernel
theorem dL_setLoudness_20 : decode cL_setLoudness 20 = .ok (.ireturn, 1) := by decide +kernel
theorem dL_setLoudness_21 : decode cL_setLoudness 21 = .ok (.iconst 0, 1) := by decide +kernel
theorem dL_setLoudness_22 : decode cL_setLoudness 22 = .ok (.ireturn, 1) := by decide +kernel
theorem dL_switchFountain_0 : decode cL_switchFountain 0 = .ok (.aload_n 2, 1) := by decide +kernel
theorem dL_switchFountain_1 : decode cL_switchFountain 1 = .ok (.iconst 0, 1) := by decide +kernel
theorem dL_switchFountain_2 : decode cL_switchFountain 2 = .ok (.aload_n 0, 1) := by decide +kernel
theorem dL_switchFountain_3 : decode cL_switchFountain 3 = .ok (.iload_n 1, 1) := by decide +kernel
theorem dL_switchFountain_4 : decode cL_switchFountain 4 = .ok (.invokevirtual 29, 3) := by decide +kernel
theorem dL_switchFountain_7 : decode cL_switchFountain 7 = .ok (.ifCond .eq 7, 3) := by decide +kernel
theorem dL_switchFountain_10 : decode cL_switchFountain 10 = .ok (.lconst 1, 1) := by decide +kernel
theorem dL_switchFountain_11 : decode cL_switchFountain 11 = .ok (.goto 4, 3) := by decide +kernel
theorem dL_switchFountain_14 : decode cL_switchFountain 14 = .ok (.lconst 0, 1) := by decide +kernel
theorem dL_switchFountain_15 : decode cL_switchFountain 15 = .ok (.lastore, 1) := by decide +kernel
theorem dL_switchFountain_16 : decode cL_switchFountain 16 = .ok (.goto 6, 3) := by decide +kernel
theorem dL_switchFountain_19 : decode cL_switchFountain 19 = .ok (.astore_n 3, 1) := by decide +kernel
theorem dL_switchFountain_20 : decode cL_switchFountain 20 = .ok (.iconst 1, 1) := by decide +kernel
theorem dL_switchFountain_21 : decode cL_switchFountain 21 = .ok (.ireturn, 1) := by decide +kernel
theorem dL_switchFountain_22 : decode cL_switchFountain 22 = .ok (.iconst 0, 1) := by decide +kernel
theorem dL_switchFountain_23 : decode cL_switchFountain 23 = .ok (.ireturn, 1) := by decide +kernel
theorem dL_setNoiseLimit_0 : decode cL_setNoiseLimit 0 = .ok (.aload_n 2, 1) := by decide +kernel
theorem dL_setNoiseLimit_1 : decode cL_setNoiseLimit 1 = .ok (.iconst 0, 1) := by decide +kernel
theorem dL_setNoiseLimit_2 : decode cL_setNoiseLimit 2 = .ok (.aload_n 0, 1) := by decide +kernel
theorem dL_setNoiseLimit_3 : decode cL_setNoiseLimit 3 = .ok (.iload_n 1, 1) := by decide +kernel
theorem dL_setNoiseLimit_4 : decode cL_setNoiseLimit 4 = .ok (.invokevirtual 33, 3) := by decide +kernel
theorem dL_setNoiseLimit_7 : decode cL_setNoiseLimit 7 = .ok (.i2l, 1) := by decide +kernel
theorem dL_setNoiseLimit_8 : decode cL_setNoiseLimit 8 = .ok (.lastore, 1) := by decide +kernel
theorem dL_setNoiseLimit_9 : decode cL_setNoiseLimit 9 = .ok (.goto 6, 3) := by decide +kernel
theorem dL_setNoiseLimit_12 : decode cL_setNoiseLimit 12 = .ok (.astore_n 3, 1) := by decide +kernel
theorem dL_setNoiseLimit_13 : decode cL_setNoiseLimit 13 = .ok (.iconst 1, 1) := by decide +kernel
theorem dL_setNoiseLimit_14 : decode cL_setNoiseLimit 14 = .ok (.ireturn, 1) := by decide +kernel
theorem dL_setNoiseLimit_15 : decode cL_setNoiseLimit 15 = .ok (.iconst 0, 1) := by decide +kernel
theorem dL_setNoiseLimit_16 : decode cL_setNoiseLimit 16 = .ok (.ireturn, 1) := by decide +kernel
theorem dL_rowOf_0 : decode cL_rowOf 0 = .ok (.aload_n 2, 1) := by decide +kernel
theorem dL_rowOf_1 : decode cL_rowOf 1 = .ok (.iconst 0, 1) := by decide +kernel
theorem dL_rowOf_2 : decode cL_rowOf 2 = .ok (.aload_n 0, 1) := by decide +kernel
theorem dL_rowOf_3 : decode cL_rowOf 3 = .ok (.iload_n 1, 1) := by decide +kernel
theorem dL_rowOf_4 : decode cL_rowOf 4 = .ok (.invokevirtual 37, 3) := by decide +kernel
theorem dL_rowOf_7 : decode cL_rowOf 7 = .ok (.i2l, 1) := by decide +kernel
theorem dL_rowOf_8 : decode cL_rowOf 8 = .ok (.lastore, 1) := by decide +kernel
theorem dL_rowOf_9 : decode cL_rowOf 9 = .ok (.goto 6, 3) := by decide +kernel
theorem dL_rowOf_12 : decode cL_rowOf 12 = .ok (.astore_n 3, 1) := by decide +kernel
theorem dL_rowOf_13 : decode cL_rowOf 13 = .ok (.iconst 1, 1) := by decide +kernel
theorem dL_rowOf_14 : decode cL_rowOf 14 = .ok (.ireturn, 1) := by decide +kernel
theorem dL_rowOf_15 : decode cL_rowOf 15 = .ok (.iconst 0, 1) := by decide +kernel
theorem dL_rowOf_16 : decode cL_rowOf 16 = .ok (.ireturn, 1) := by decide +kernel
theorem dL_columnOf_0 : decode cL_columnOf 0 = .ok (.aload_n 2, 1) := by decide +kernel
theorem dL_columnOf_1 : decode cL_columnOf 1 = .ok (.iconst 0, 1) := by decide +kernel
theorem dL_columnOf_2 : decode cL_columnOf 2 = .ok (.aload_n 0, 1) := by decide +kernel
theorem dL_columnOf_3 : decode cL_columnOf 3 = .ok (.iload_n 1, 1) := by decide +kernel
theorem dL_columnOf_4 : decode cL_columnOf 4 = .ok (.invokevirtual 40, 3) := by decide +kernel
theorem dL_columnOf_7 : decode cL_columnOf 7 = .ok (.i2l, 1) := by decide +kernel
theorem dL_columnOf_8 : decode cL_columnOf 8 = .ok (.lastore, 1) := by decide +kernel
theorem dL_columnOf_9 : decode cL_columnOf 9 = .ok (.goto 6, 3) := by decide +kernel
theorem dL_columnOf_12 : decode cL_columnOf 12 = .ok (.astore_n 3, 1) := by decide +kernel
theorem dL_columnOf_13 : decode cL_columnOf 13 = .ok (.iconst 1, 1) := by decide +kernel
theorem dL_columnOf_14 : decode cL_columnOf 14 = .ok (.ireturn, 1) := by decide +kernel
theorem dL_columnOf_15 : decode cL_columnOf 15 = .ok (.iconst 0, 1) := by decide +kernel
theorem dL_columnOf_16 : decode cL_columnOf 16 = .ok (.ireturn, 1) := by decide +kernel
theorem dL_baseRent_0 : decode cL_baseRent 0 = .ok (.aload_n 2, 1) := by decide +kernel
theorem dL_baseRent_1 : decode cL_baseRent 1 = .ok (.iconst 0, 1) := by decide +kernel
theorem dL_baseRent_2 : decode cL_baseRent 2 = .ok (.aload_n 0, 1) := by decide +kernel
theorem dL_baseRent_3 : decode cL_baseRent 3 = .ok (.iload_n 1, 1) := by decide +kernel
theorem dL_baseRent_4 : decode cL_baseRent 4 = .ok (.invokevirtual 43, 3) := by decide +kernel
theorem dL_baseRent_7 : decode cL_baseRent 7 = .ok (.i2l, 1) := by decide +kernel
theorem dL_baseRent_8 : decode cL_baseRent 8 = .ok (.lastore, 1) := by decide +kernel
theorem dL_baseRent_9 : decode cL_baseRent 9 = .ok (.goto 6, 3) := by decide +kernel
theorem dL_baseRent_12 : decode cL_baseRent 12 = .ok (.astore_n 3, 1) := by decide +kernel
theorem dL_baseRent_13 : decode cL_baseRent 13 = .ok (.iconst 1, 1) := by decide +kernel
theorem dL_baseRent_14 : decode cL_baseRent 14 = .ok (.ireturn, 1) := by decide +kernel
theorem dL_baseRent_15 : decode cL_baseRent 15 = .ok (.iconst 0, 1) := by decide +kernel
theorem dL_baseRent_16 : decode cL_baseRent 16 = .ok (.ireturn, 1) := by decide +kernel
theorem dL_rentOf_0 : decode cL_rentOf 0 = .ok (.aload_n 2, 1) := by decide +kernel
theorem dL_rentOf_1 : decode cL_rentOf 1 = .ok (.iconst 0, 1) := by decide +kernel
theorem dL_rentOf_2 : decode cL_rentOf 2 = .ok (.aload_n 0, 1) := by decide +kernel
theorem dL_rentOf_3 : decode cL_rentOf 3 = .ok (.iload_n 1, 1) := by decide +kernel
theorem dL_rentOf_4 : decode cL_rentOf 4 = .ok (.invokevirtual 46, 3) := by decide +kernel
theorem dL_rentOf_7 : decode cL_rentOf 7 = .ok (.i2l, 1) := by decide +kernel
theorem dL_rentOf_8 : decode cL_rentOf 8 = .ok (.lastore, 1) := by decide +kernel
theorem dL_rentOf_9 : decode cL_rentOf 9 = .ok (.goto 6, 3) := by decide +kernel
theorem dL_rentOf_12 : decode cL_rentOf 12 = .ok (.astore_n 3, 1) := by decide +kernel
theorem dL_rentOf_13 : decode cL_rentOf 13 = .ok (.iconst 1, 1) := by decide +kernel
theorem dL_rentOf_14 : decode cL_rentOf 14 = .ok (.ireturn, 1) := by decide +kernel
theorem dL_rentOf_15 : decode cL_rentOf 15 = .ok (.iconst 0, 1) := by decide +kernel
theorem dL_rentOf_16 : decode cL_rentOf 16 = .ok (.ireturn, 1) := by decide +kernel
theorem dL_loudnessOf_0 : decode cL_loudnessOf 0 = .ok (.aload_n 2, 1) := by decide +kernel
theorem dL_loudnessOf_1 : decode cL_loudnessOf 1 = .ok (.iconst 0, 1) := by decide +kernel
theorem dL_loudnessOf_2 : decode cL_loudnessOf 2 = .ok (.aload_n 0, 1) := by decide +kernel
theorem dL_loudnessOf_3 : decode cL_loudnessOf 3 = .ok (.iload_n 1, 1) := by decide +kernel
theorem dL_loudnessOf_4 : decode cL_loudnessOf 4 = .ok (.invokevirtual 49, 3) := by decide +kernel
theorem dL_loudnessOf_7 : decode cL_loudnessOf 7 = .ok (.i2l, 1) := by decide +kernel
theorem dL_loudnessOf_8 : decode cL_loudnessOf 8 = .ok (.lastore, 1) := by decide +kernel
theorem dL_loudnessOf_9 : decode cL_loudnessOf 9 = .ok (.goto 6, 3) := by decide +kernel
theorem dL_loudnessOf_12 : decode cL_loudnessOf 12 = .ok (.astore_n 3, 1) := by decide +kernel
theorem dL_loudnessOf_13 : decode cL_loudnessOf 13 = .ok (.iconst 1, 1) := by decide +kernel
theorem dL_loudnessOf_14 : decode cL_loudnessOf 14 = .ok (.ireturn, 1) := by decide +kernel
theorem dL_loudnessOf_15 : decode cL_loudnessOf 15 = .ok (.iconst 0, 1) := by decide +kernel
theorem dL_loudnessOf_16 : decode cL_loudnessOf 16 = .ok (.ireturn, 1) := by decide +kernel
theorem dL_isRunning_0 : decode cL_isRunning 0 = .ok (.aload_n 2, 1) := by decide +kernel
theorem dL_isRunning_1 : decode cL_isRunning 1 = .ok (.iconst 0, 1) := by decide +kernel
theorem dL_isRunning_2 : decode cL_isRunning 2 = .ok (.aload_n 0, 1) := by decide +kernel
theorem dL_isRunning_3 : decode cL_isRunning 3 = .ok (.iload_n 1, 1) := by decide +kernel
theorem dL_isRunning_4 : decode cL_isRunning 4 = .ok (.invokevirtual 52, 3) := by decide +kernel
theorem dL_isRunning_7 : decode cL_isRunning 7 = .ok (.ifCond .eq 7, 3) := by decide +kernel
theorem dL_isRunning_10 : decode cL_isRunning 10 = .ok (.lconst 1, 1) := by decide +kernel
theorem dL_isRunning_11 : decode cL_isRunning 11 = .ok (.goto 4, 3) := by decide +kernel
theorem dL_isRunning_14 : decode cL_isRunning 14 = .ok (.lconst 0, 1) := by decide +kernel
theorem dL_isRunning_15 : decode cL_isRunning 15 = .ok (.lastore, 1) := by decide +kernel
theorem dL_isRunning_16 : decode cL_isRunning 16 = .ok (.goto 6, 3) := by decide +kernel
theorem dL_isRunning_19 : decode cL_isRunning 19 = .ok (.astore_n 3, 1) := by decide +kernel
theorem dL_isRunning_20 : decode cL_isRunning 20 = .ok (.iconst 1, 1) := by decide +kernel
theorem dL_isRunning_21 : decode cL_isRunning 21 = .ok (.ireturn, 1) := by decide +kernel
theorem dL_isRunning_22 : decode cL_isRunning 22 = .ok (.iconst 0, 1) := by decide +kernel
theorem dL_isRunning_23 : decode cL_isRunning 23 = .ok (.ireturn, 1) := by decide +kernel
theorem dL_noiseAt_0 : decode cL_noiseAt 0 = .ok (.aload_n 3, 1) := by decide +kernel
theorem dL_noiseAt_1 : decode cL_noiseAt 1 = .ok (.iconst 0, 1) := by decide +kernel
theorem dL_noiseAt_2 : decode cL_noiseAt 2 = .ok (.aload_n 0, 1) := by decide +kernel
theorem dL_noiseAt_3 : decode cL_noiseAt 3 = .ok (.iload_n 1, 1) := by decide +kernel
theorem dL_noiseAt_4 : decode cL_noiseAt 4 = .ok (.iload_n 2, 1) := by decide +kernel
theorem dL_noiseAt_5 : decode cL_noiseAt 5 = .ok (.invokevirtual 55, 3) := by decide +kernel
theorem dL_noiseAt_8 : decode cL_noiseAt 8 = .ok (.i2l, 1) := by decide +kernel
theorem dL_noiseAt_9 : decode cL_noiseAt 9 = .ok (.lastore, 1) := by decide +kernel
theorem dL_noiseAt_10 : decode cL_noiseAt 10 = .ok (.goto 7, 3) := by decide +kernel
theorem dL_noiseAt_13 : decode cL_noiseAt 13 = .ok (.astore 4, 2) := by decide +kernel
theorem dL_noiseAt_15 : decode cL_noiseAt 15 = .ok (.iconst 1, 1) := by decide +kernel
theorem dL_noiseAt_16 : decode cL_noiseAt 16 = .ok (.ireturn, 1) := by decide +kernel
theorem dL_noiseAt_17 : decode cL_noiseAt 17 = .ok (.iconst 0, 1) := by decide +kernel
theorem dL_noiseAt_18 : decode cL_noiseAt 18 = .ok (.ireturn, 1) := by decide +kernel
theorem dL_noiseBySpreading_0 : decode cL_noiseBySpreading 0 = .ok (.aload_n 3, 1) := by decide +kernel
theorem dL_noiseBySpreading_1 : decode cL_noiseBySpreading 1 = .ok (.iconst 0, 1) := by decide +kernel
theorem dL_noiseBySpreading_2 : decode cL_noiseBySpreading 2 = .ok (.aload_n 0, 1) := by decide +kernel
theorem dL_noiseBySpreading_3 : decode cL_noiseBySpreading 3 = .ok (.iload_n 1, 1) := by decide +kernel
theorem dL_noiseBySpreading_4 : decode cL_noiseBySpreading 4 = .ok (.iload_n 2, 1) := by decide +kernel
theorem dL_noiseBySpreading_5 : decode cL_noiseBySpreading 5 = .ok (.invokevirtual 58, 3) := by decide +kernel
theorem dL_noiseBySpreading_8 : decode cL_noiseBySpreading 8 = .ok (.i2l, 1) := by decide +kernel
theorem dL_noiseBySpreading_9 : decode cL_noiseBySpreading 9 = .ok (.lastore, 1) := by decide +kernel
theorem dL_noiseBySpreading_10 : decode cL_noiseBySpreading 10 = .ok (.goto 7, 3) := by decide +kernel
theorem dL_noiseBySpreading_13 : decode cL_noiseBySpreading 13 = .ok (.astore 4, 2) := by decide +kernel
theorem dL_noiseBySpreading_15 : decode cL_noiseBySpreading 15 = .ok (.iconst 1, 1) := by decide +kernel
theorem dL_noiseBySpreading_16 : decode cL_noiseBySpreading 16 = .ok (.ireturn, 1) := by decide +kernel
theorem dL_noiseBySpreading_17 : decode cL_noiseBySpreading 17 = .ok (.iconst 0, 1) := by decide +kernel
theorem dL_noiseBySpreading_18 : decode cL_noiseBySpreading 18 = .ok (.ireturn, 1) := by decide +kernel
theorem dL_isQuiet_0 : decode cL_isQuiet 0 = .ok (.aload_n 2, 1) := by decide +kernel
theorem dL_isQuiet_1 : decode cL_isQuiet 1 = .ok (.iconst 0, 1) := by decide +kernel
theorem dL_isQuiet_2 : decode cL_isQuiet 2 = .ok (.aload_n 0, 1) := by decide +kernel
theorem dL_isQuiet_3 : decode cL_isQuiet 3 = .ok (.iload_n 1, 1) := by decide +kernel
theorem dL_isQuiet_4 : decode cL_isQuiet 4 = .ok (.invokevirtual 61, 3) := by decide +kernel
theorem dL_isQuiet_7 : decode cL_isQuiet 7 = .ok (.ifCond .eq 7, 3) := by decide +kernel
theorem dL_isQuiet_10 : decode cL_isQuiet 10 = .ok (.lconst 1, 1) := by decide +kernel
theorem dL_isQuiet_11 : decode cL_isQuiet 11 = .ok (.goto 4, 3) := by decide +kernel
theorem dL_isQuiet_14 : decode cL_isQuiet 14 = .ok (.lconst 0, 1) := by decide +kernel
theorem dL_isQuiet_15 : decode cL_isQuiet 15 = .ok (.lastore, 1) := by decide +kernel
theorem dL_isQuiet_16 : decode cL_isQuiet 16 = .ok (.goto 6, 3) := by decide +kernel
theorem dL_isQuiet_19 : decode cL_isQuiet 19 = .ok (.astore_n 3, 1) := by decide +kernel
theorem dL_isQuiet_20 : decode cL_isQuiet 20 = .ok (.iconst 1, 1) := by decide +kernel
theorem dL_isQuiet_21 : decode cL_isQuiet 21 = .ok (.ireturn, 1) := by decide +kernel
theorem dL_isQuiet_22 : decode cL_isQuiet 22 = .ok (.iconst 0, 1) := by decide +kernel
theorem dL_isQuiet_23 : decode cL_isQuiet 23 = .ok (.ireturn, 1) := by decide +kernel
theorem dL_addTenant_0 : decode cL_addTenant 0 = .ok (.aload_n 2, 1) := by decide +kernel
theorem dL_addTenant_1 : decode cL_addTenant 1 = .ok (.iconst 0, 1) := by decide +kernel
theorem dL_addTenant_2 : decode cL_addTenant 2 = .ok (.aload_n 0, 1) := by decide +kernel
theorem dL_addTenant_3 : decode cL_addTenant 3 = .ok (.iload_n 1, 1) := by decide +kernel
theorem dL_addTenant_4 : decode cL_addTenant 4 = .ok (.invokevirtual 64, 3) := by decide +kernel
theorem dL_addTenant_7 : decode cL_addTenant 7 = .ok (.i2l, 1) := by decide +kernel
theorem dL_addTenant_8 : decode cL_addTenant 8 = .ok (.lastore, 1) := by decide +kernel
theorem dL_addTenant_9 : decode cL_addTenant 9 = .ok (.goto 9, 3) := by decide +kernel
theorem dL_addTenant_12 : decode cL_addTenant 12 = .ok (.astore_n 3, 1) := by decide +kernel
theorem dL_addTenant_13 : decode cL_addTenant 13 = .ok (.iconst 1, 1) := by decide +kernel
theorem dL_addTenant_14 : decode cL_addTenant 14 = .ok (.ireturn, 1) := by decide +kernel
theorem dL_addTenant_15 : decode cL_addTenant 15 = .ok (.astore_n 3, 1) := by decide +kernel
theorem dL_addTenant_16 : decode cL_addTenant 16 = .ok (.iconst 2, 1) := by decide +kernel
theorem dL_addTenant_17 : decode cL_addTenant 17 = .ok (.ireturn, 1) := by decide +kernel
theorem dL_addTenant_18 : decode cL_addTenant 18 = .ok (.iconst 0, 1) := by decide +kernel
theorem dL_addTenant_19 : decode cL_addTenant 19 = .ok (.ireturn, 1) := by decide +kernel
theorem dL_giveCoins_0 : decode cL_giveCoins 0 = .ok (.aload_n 3, 1) := by decide +kernel
theorem dL_giveCoins_1 : decode cL_giveCoins 1 = .ok (.iconst 0, 1) := by decide +kernel
theorem dL_giveCoins_2 : decode cL_giveCoins 2 = .ok (.aload_n 0, 1) := by decide +kernel
theorem dL_giveCoins_3 : decode cL_giveCoins 3 = .ok (.iload_n 1, 1) := by decide +kernel
theorem dL_giveCoins_4 : decode cL_giveCoins 4 = .ok (.iload_n 2, 1) := by decide +kernel
theorem dL_giveCoins_5 : decode cL_giveCoins 5 = .ok (.invokevirtual 67, 3) := by decide +kernel
theorem dL_giveCoins_8 : decode cL_giveCoins 8 = .ok (.i2l, 1) := by decide +kernel
theorem dL_giveCoins_9 : decode cL_giveCoins 9 = .ok (.lastore, 1) := by decide +kernel
theorem dL_giveCoins_10 : decode cL_giveCoins 10 = .ok (.goto 11, 3) := by decide +kernel
theorem dL_giveCoins_13 : decode cL_giveCoins 13 = .ok (.astore 4, 2) := by decide +kernel
theorem dL_giveCoins_15 : decode cL_giveCoins 15 = .ok (.iconst 1, 1) := by decide +kernel
theorem dL_giveCoins_16 : decode cL_giveCoins 16 = .ok (.ireturn, 1) := by decide +kernel
theorem dL_giveCoins_17 : decode cL_giveCoins 17 = .ok (.astore 4, 2) := by decide +kernel
theorem dL_giveCoins_19 : decode cL_giveCoins 19 = .ok (.iconst 2, 1) := by decide +kernel
theorem dL_giveCoins_20 : decode cL_giveCoins 20 = .ok (.ireturn, 1) := by decide +kernel
theorem dL_giveCoins_21 : decode cL_giveCoins 21 = .ok (.iconst 0, 1) := by decide +kernel
theorem dL_giveCoins_22 : decode cL_giveCoins 22 = .ok (.ireturn, 1) := by decide +kernel
theorem dL_coinsOf_0 : decode cL_coinsOf 0 = .ok (.aload_n 2, 1) := by decide +kernel
theorem dL_coinsOf_1 : decode cL_coinsOf 1 = .ok (.iconst 0, 1) := by decide +kernel
theorem dL_coinsOf_2 : decode cL_coinsOf 2 = .ok (.aload_n 0, 1) := by decide +kernel
theorem dL_coinsOf_3 : decode cL_coinsOf 3 = .ok (.iload_n 1, 1) := by decide +kernel
theorem dL_coinsOf_4 : decode cL_coinsOf 4 = .ok (.invokevirtual 70, 3) := by decide +kernel
theorem dL_coinsOf_7 : decode cL_coinsOf 7 = .ok (.i2l, 1) := by decide +kernel
theorem dL_coinsOf_8 : decode cL_coinsOf 8 = .ok (.lastore, 1) := by decide +kernel
theorem dL_coinsOf_9 : decode cL_coinsOf 9 = .ok (.goto 6, 3) := by decide +kernel
theorem dL_coinsOf_12 : decode cL_coinsOf 12 = .ok (.astore_n 3, 1) := by decide +kernel
theorem dL_coinsOf_13 : decode cL_coinsOf 13 = .ok (.iconst 1, 1) := by decide +kernel
theorem dL_coinsOf_14 : decode cL_coinsOf 14 = .ok (.ireturn, 1) := by decide +kernel
theorem dL_coinsOf_15 : decode cL_coinsOf 15 = .ok (.iconst 0, 1) := by decide +kernel
theorem dL_coinsOf_16 : decode cL_coinsOf 16 = .ok (.ireturn, 1) := by decide +kernel
theorem dL_defaultsOf_0 : decode cL_defaultsOf 0 = .ok (.aload_n 2, 1) := by decide +kernel
theorem dL_defaultsOf_1 : decode cL_defaultsOf 1 = .ok (.iconst 0, 1) := by decide +kernel
theorem dL_defaultsOf_2 : decode cL_defaultsOf 2 = .ok (.aload_n 0, 1) := by decide +kernel
theorem dL_defaultsOf_3 : decode cL_defaultsOf 3 = .ok (.iload_n 1, 1) := by decide +kernel
theorem dL_defaultsOf_4 : decode cL_defaultsOf 4 = .ok (.invokevirtual 73, 3) := by decide +kernel
theorem dL_defaultsOf_7 : decode cL_defaultsOf 7 = .ok (.i2l, 1) := by decide +kernel
theorem dL_defaultsOf_8 : decode cL_defaultsOf 8 = .ok (.lastore, 1) := by decide +kernel
theorem dL_defaultsOf_9 : decode cL_defaultsOf 9 = .ok (.goto 6, 3) := by decide +kernel
theorem dL_defaultsOf_12 : decode cL_defaultsOf 12 = .ok (.astore_n 3, 1) := by decide +kernel
theorem dL_defaultsOf_13 : decode cL_defaultsOf 13 = .ok (.iconst 1, 1) := by decide +kernel
theorem dL_defaultsOf_14 : decode cL_defaultsOf 14 = .ok (.ireturn, 1) := by decide +kernel
theorem dL_defaultsOf_15 : decode cL_defaultsOf 15 = .ok (.iconst 0, 1) := by decide +kernel
theorem dL_defaultsOf_16 : decode cL_defaultsOf 16 = .ok (.ireturn, 1) := by decide +kernel
theorem dL_benchOf_0 : decode cL_benchOf 0 = .ok (.aload_n 2, 1) := by decide +kernel
theorem dL_benchOf_1 : decode cL_benchOf 1 = .ok (.iconst 0, 1) := by decide +kernel
theorem dL_benchOf_2 : decode cL_benchOf 2 = .ok (.aload_n 0, 1) := by decide +kernel
theorem dL_benchOf_3 : decode cL_benchOf 3 = .ok (.iload_n 1, 1) := by decide +kernel
theorem dL_benchOf_4 : decode cL_benchOf 4 = .ok (.invokevirtual 76, 3) := by decide +kernel
theorem dL_benchOf_7 : decode cL_benchOf 7 = .ok (.i2l, 1) := by decide +kernel
theorem dL_benchOf_8 : decode cL_benchOf 8 = .ok (.lastore, 1) := by decide +kernel
theorem dL_benchOf_9 : decode cL_benchOf 9 = .ok (.goto 9, 3) := by decide +kernel
theorem dL_benchOf_12 : decode cL_benchOf 12 = .ok (.astore_n 3, 1) := by decide +kernel
theorem dL_benchOf_13 : decode cL_benchOf 13 = .ok (.iconst 1, 1) := by decide +kernel
theorem dL_benchOf_14 : decode cL_benchOf 14 = .ok (.ireturn, 1) := by decide +kernel
theorem dL_benchOf_15 : decode cL_benchOf 15 = .ok (.astore_n 3, 1) := by decide +kernel
theorem dL_benchOf_16 : decode cL_benchOf 16 = .ok (.iconst 2, 1) := by decide +kernel
theorem dL_benchOf_17 : decode cL_benchOf 17 = .ok (.ireturn, 1) := by decide +kernel
theorem dL_benchOf_18 : decode cL_benchOf 18 = .ok (.iconst 0, 1) := by decide +kernel
theorem dL_benchOf_19 : decode cL_benchOf 19 = .ok (.ireturn, 1) := by decide +kernel
theorem dL_canLease_0 : decode cL_canLease 0 = .ok (.aload_n 3, 1) := by decide +kernel
theorem dL_canLease_1 : decode cL_canLease 1 = .ok (.iconst 0, 1) := by decide +kernel
theorem dL_canLease_2 : decode cL_canLease 2 = .ok (.aload_n 0, 1) := by decide +kernel
theorem dL_canLease_3 : decode cL_canLease 3 = .ok (.iload_n 1, 1) := by decide +kernel
theorem dL_canLease_4 : decode cL_canLease 4 = .ok (.iload_n 2, 1) := by decide +kernel
theorem dL_canLease_5 : decode cL_canLease 5 = .ok (.invokevirtual 81, 3) := by decide +kernel
theorem dL_canLease_8 : decode cL_canLease 8 = .ok (.ifCond .eq 7, 3) := by decide +kernel
theorem dL_canLease_11 : decode cL_canLease 11 = .ok (.lconst 1, 1) := by decide +kernel
theorem dL_canLease_12 : decode cL_canLease 12 = .ok (.goto 4, 3) := by decide +kernel
theorem dL_canLease_15 : decode cL_canLease 15 = .ok (.lconst 0, 1) := by decide +kernel
theorem dL_canLease_16 : decode cL_canLease 16 = .ok (.lastore, 1) := by decide +kernel
theorem dL_canLease_17 : decode cL_canLease 17 = .ok (.goto 7, 3) := by decide +kernel
theorem dL_canLease_20 : decode cL_canLease 20 = .ok (.astore 4, 2) := by decide +kernel
theorem dL_canLease_22 : decode cL_canLease 22 = .ok (.iconst 1, 1) := by decide +kernel
theorem dL_canLease_23 : decode cL_canLease 23 = .ok (.ireturn, 1) := by decide +kernel
theorem dL_canLease_24 : decode cL_canLease 24 = .ok (.iconst 0, 1) := by decide +kernel
theorem dL_canLease_25 : decode cL_canLease 25 = .ok (.ireturn, 1) := by decide +kernel
theorem dL_cheapestFor_0 : decode cL_cheapestFor 0 = .ok (.aload_n 2, 1) := by decide +kernel
theorem dL_cheapestFor_1 : decode cL_cheapestFor 1 = .ok (.iconst 0, 1) := by decide +kernel
theorem dL_cheapestFor_2 : decode cL_cheapestFor 2 = .ok (.aload_n 0, 1) := by decide +kernel
theorem dL_cheapestFor_3 : decode cL_cheapestFor 3 = .ok (.iload_n 1, 1) := by decide +kernel
theorem dL_cheapestFor_4 : decode cL_cheapestFor 4 = .ok (.invokevirtual 85, 3) := by decide +kernel
theorem dL_cheapestFor_7 : decode cL_cheapestFor 7 = .ok (.i2l, 1) := by decide +kernel
theorem dL_cheapestFor_8 : decode cL_cheapestFor 8 = .ok (.lastore, 1) := by decide +kernel
theorem dL_cheapestFor_9 : decode cL_cheapestFor 9 = .ok (.goto 9, 3) := by decide +kernel
theorem dL_cheapestFor_12 : decode cL_cheapestFor 12 = .ok (.astore_n 3, 1) := by decide +kernel
theorem dL_cheapestFor_13 : decode cL_cheapestFor 13 = .ok (.iconst 1, 1) := by decide +kernel
theorem dL_cheapestFor_14 : decode cL_cheapestFor 14 = .ok (.ireturn, 1) := by decide +kernel
theorem dL_cheapestFor_15 : decode cL_cheapestFor 15 = .ok (.astore_n 3, 1) := by decide +kernel
theorem dL_cheapestFor_16 : decode cL_cheapestFor 16 = .ok (.iconst 2, 1) := by decide +kernel
theorem dL_cheapestFor_17 : decode cL_cheapestFor 17 = .ok (.ireturn, 1) := by decide +kernel
theorem dL_cheapestFor_18 : decode cL_cheapestFor 18 = .ok (.iconst 0, 1) := by decide +kernel
theorem dL_cheapestFor_19 : decode cL_cheapestFor 19 = .ok (.ireturn, 1) := by decide +kernel
theorem dL_lease_0 : decode cL_lease 0 = .ok (.aload 4, 2) := by decide +kernel
theorem dL_lease_2 : decode cL_lease 2 = .ok (.iconst 0, 1) := by decide +kernel
theorem dL_lease_3 : decode cL_lease 3 = .ok (.aload_n 0, 1) := by decide +kernel
theorem dL_lease_4 : decode cL_lease 4 = .ok (.iload_n 1, 1) := by decide +kernel
theorem dL_lease_5 : decode cL_lease 5 = .ok (.iload_n 2, 1) := by decide +kernel
theorem dL_lease_6 : decode cL_lease 6 = .ok (.iload_n 3, 1) := by decide +kernel
theorem dL_lease_7 : decode cL_lease 7 = .ok (.invokevirtual 88, 3) := by decide +kernel
theorem dL_lease_10 : decode cL_lease 10 = .ok (.i2l, 1) := by decide +kernel
theorem dL_lease_11 : decode cL_lease 11 = .ok (.lastore, 1) := by decide +kernel
theorem dL_lease_12 : decode cL_lease 12 = .ok (.goto 15, 3) := by decide +kernel
theorem dL_lease_15 : decode cL_lease 15 = .ok (.astore 5, 2) := by decide +kernel
theorem dL_lease_17 : decode cL_lease 17 = .ok (.iconst 1, 1) := by decide +kernel
theorem dL_lease_18 : decode cL_lease 18 = .ok (.ireturn, 1) := by decide +kernel
theorem dL_lease_19 : decode cL_lease 19 = .ok (.astore 5, 2) := by decide +kernel
theorem dL_lease_21 : decode cL_lease 21 = .ok (.iconst 2, 1) := by decide +kernel
theorem dL_lease_22 : decode cL_lease 22 = .ok (.ireturn, 1) := by decide +kernel
theorem dL_lease_23 : decode cL_lease 23 = .ok (.astore 5, 2) := by decide +kernel
theorem dL_lease_25 : decode cL_lease 25 = .ok (.iconst 3, 1) := by decide +kernel
theorem dL_lease_26 : decode cL_lease 26 = .ok (.ireturn, 1) := by decide +kernel
theorem dL_lease_27 : decode cL_lease 27 = .ok (.iconst 0, 1) := by decide +kernel
theorem dL_lease_28 : decode cL_lease 28 = .ok (.ireturn, 1) := by decide +kernel
theorem dL_endLease_0 : decode cL_endLease 0 = .ok (.aload_n 2, 1) := by decide +kernel
theorem dL_endLease_1 : decode cL_endLease 1 = .ok (.iconst 0, 1) := by decide +kernel
theorem dL_endLease_2 : decode cL_endLease 2 = .ok (.aload_n 0, 1) := by decide +kernel
theorem dL_endLease_3 : decode cL_endLease 3 = .ok (.iload_n 1, 1) := by decide +kernel
theorem dL_endLease_4 : decode cL_endLease 4 = .ok (.invokevirtual 91, 3) := by decide +kernel
theorem dL_endLease_7 : decode cL_endLease 7 = .ok (.i2l, 1) := by decide +kernel
theorem dL_endLease_8 : decode cL_endLease 8 = .ok (.lastore, 1) := by decide +kernel
theorem dL_endLease_9 : decode cL_endLease 9 = .ok (.goto 9, 3) := by decide +kernel
theorem dL_endLease_12 : decode cL_endLease 12 = .ok (.astore_n 3, 1) := by decide +kernel
theorem dL_endLease_13 : decode cL_endLease 13 = .ok (.iconst 1, 1) := by decide +kernel
theorem dL_endLease_14 : decode cL_endLease 14 = .ok (.ireturn, 1) := by decide +kernel
theorem dL_endLease_15 : decode cL_endLease 15 = .ok (.astore_n 3, 1) := by decide +kernel
theorem dL_endLease_16 : decode cL_endLease 16 = .ok (.iconst 2, 1) := by decide +kernel
theorem dL_endLease_17 : decode cL_endLease 17 = .ok (.ireturn, 1) := by decide +kernel
theorem dL_endLease_18 : decode cL_endLease 18 = .ok (.iconst 0, 1) := by decide +kernel
theorem dL_endLease_19 : decode cL_endLease 19 = .ok (.ireturn, 1) := by decide +kernel
theorem dL_renew_0 : decode cL_renew 0 = .ok (.aload_n 3, 1) := by decide +kernel
theorem dL_renew_1 : decode cL_renew 1 = .ok (.iconst 0, 1) := by decide +kernel
theorem dL_renew_2 : decode cL_renew 2 = .ok (.aload_n 0, 1) := by decide +kernel
theorem dL_renew_3 : decode cL_renew 3 = .ok (.iload_n 1, 1) := by decide +kernel
theorem dL_renew_4 : decode cL_renew 4 = .ok (.iload_n 2, 1) := by decide +kernel
theorem dL_renew_5 : decode cL_renew 5 = .ok (.invokevirtual 94, 3) := by decide +kernel
theorem dL_renew_8 : decode cL_renew 8 = .ok (.i2l, 1) := by decide +kernel
theorem dL_renew_9 : decode cL_renew 9 = .ok (.lastore, 1) := by decide +kernel
theorem dL_renew_10 : decode cL_renew 10 = .ok (.goto 15, 3) := by decide +kernel
theorem dL_renew_13 : decode cL_renew 13 = .ok (.astore 4, 2) := by decide +kernel
theorem dL_renew_15 : decode cL_renew 15 = .ok (.iconst 1, 1) := by decide +kernel
theorem dL_renew_16 : decode cL_renew 16 = .ok (.ireturn, 1) := by decide +kernel
theorem dL_renew_17 : decode cL_renew 17 = .ok (.astore 4, 2) := by decide +kernel
theorem dL_renew_19 : decode cL_renew 19 = .ok (.iconst 2, 1) := by decide +kernel
theorem dL_renew_20 : decode cL_renew 20 = .ok (.ireturn, 1) := by decide +kernel
theorem dL_renew_21 : decode cL_renew 21 = .ok (.astore 4, 2) := by decide +kernel
theorem dL_renew_23 : decode cL_renew 23 = .ok (.iconst 3, 1) := by decide +kernel
theorem dL_renew_24 : decode cL_renew 24 = .ok (.ireturn, 1) := by decide +kernel
theorem dL_renew_25 : decode cL_renew 25 = .ok (.iconst 0, 1) := by decide +kernel
theorem dL_renew_26 : decode cL_renew 26 = .ok (.ireturn, 1) := by decide +kernel
theorem dL_isLet_0 : decode cL_isLet 0 = .ok (.aload_n 2, 1) := by decide +kernel
theorem dL_isLet_1 : decode cL_isLet 1 = .ok (.iconst 0, 1) := by decide +kernel
theorem dL_isLet_2 : decode cL_isLet 2 = .ok (.aload_n 0, 1) := by decide +kernel
theorem dL_isLet_3 : decode cL_isLet 3 = .ok (.iload_n 1, 1) := by decide +kernel
theorem dL_isLet_4 : decode cL_isLet 4 = .ok (.invokevirtual 97, 3) := by decide +kernel
theorem dL_isLet_7 : decode cL_isLet 7 = .ok (.ifCond .eq 7, 3) := by decide +kernel
theorem dL_isLet_10 : decode cL_isLet 10 = .ok (.lconst 1, 1) := by decide +kernel
theorem dL_isLet_11 : decode cL_isLet 11 = .ok (.goto 4, 3) := by decide +kernel
theorem dL_isLet_14 : decode cL_isLet 14 = .ok (.lconst 0, 1) := by decide +kernel
theorem dL_isLet_15 : decode cL_isLet 15 = .ok (.lastore, 1) := by decide +kernel
theorem dL_isLet_16 : decode cL_isLet 16 = .ok (.goto 6, 3) := by decide +kernel
theorem dL_isLet_19 : decode cL_isLet 19 = .ok (.astore_n 3, 1) := by decide +kernel
theorem dL_isLet_20 : decode cL_isLet 20 = .ok (.iconst 1, 1) := by decide +kernel
theorem dL_isLet_21 : decode cL_isLet 21 = .ok (.ireturn, 1) := by decide +kernel
theorem dL_isLet_22 : decode cL_isLet 22 = .ok (.iconst 0, 1) := by decide +kernel
theorem dL_isLet_23 : decode cL_isLet 23 = .ok (.ireturn, 1) := by decide +kernel
theorem dL_tenantOf_0 : decode cL_tenantOf 0 = .ok (.aload_n 2, 1) := by decide +kernel
theorem dL_tenantOf_1 : decode cL_tenantOf 1 = .ok (.iconst 0, 1) := by decide +kernel
theorem dL_tenantOf_2 : decode cL_tenantOf 2 = .ok (.aload_n 0, 1) := by decide +kernel
theorem dL_tenantOf_3 : decode cL_tenantOf 3 = .ok (.iload_n 1, 1) := by decide +kernel
theorem dL_tenantOf_4 : decode cL_tenantOf 4 = .ok (.invokevirtual 100, 3) := by decide +kernel
theorem dL_tenantOf_7 : decode cL_tenantOf 7 = .ok (.i2l, 1) := by decide +kernel
theorem dL_tenantOf_8 : decode cL_tenantOf 8 = .ok (.lastore, 1) := by decide +kernel
theorem dL_tenantOf_9 : decode cL_tenantOf 9 = .ok (.goto 9, 3) := by decide +kernel
theorem dL_tenantOf_12 : decode cL_tenantOf 12 = .ok (.astore_n 3, 1) := by decide +kernel
theorem dL_tenantOf_13 : decode cL_tenantOf 13 = .ok (.iconst 1, 1) := by decide +kernel
theorem dL_tenantOf_14 : decode cL_tenantOf 14 = .ok (.ireturn, 1) := by decide +kernel
theorem dL_tenantOf_15 : decode cL_tenantOf 15 = .ok (.astore_n 3, 1) := by decide +kernel
theorem dL_tenantOf_16 : decode cL_tenantOf 16 = .ok (.iconst 2, 1) := by decide +kernel
theorem dL_tenantOf_17 : decode cL_tenantOf 17 = .ok (.ireturn, 1) := by decide +kernel
theorem dL_tenantOf_18 : decode cL_tenantOf 18 = .ok (.iconst 0, 1) := by decide +kernel
theorem dL_tenantOf_19 : decode cL_tenantOf 19 = .ok (.ireturn, 1) := by decide +kernel
theorem dL_depositOf_0 : decode cL_depositOf 0 = .ok (.aload_n 2, 1) := by decide +kernel
theorem dL_depositOf_1 : decode cL_depositOf 1 = .ok (.iconst 0, 1) := by decide +kernel
theorem dL_depositOf_2 : decode cL_depositOf 2 = .ok (.aload_n 0, 1) := by decide +kernel
theorem dL_depositOf_3 : decode cL_depositOf 3 = .ok (.iload_n 1, 1) := by decide +kernel
theorem dL_depositOf_4 : decode cL_depositOf 4 = .ok (.invokevirtual 103, 3) := by decide +kernel
theorem dL_depositOf_7 : decode cL_depositOf 7 = .ok (.i2l, 1) := by decide +kernel
theorem dL_depositOf_8 : decode cL_depositOf 8 = .ok (.lastore, 1) := by decide +kernel
theorem dL_depositOf_9 : decode cL_depositOf 9 = .ok (.goto 9, 3) := by decide +kernel
theorem dL_depositOf_12 : decode cL_depositOf 12 = .ok (.astore_n 3, 1) := by decide +kernel
theorem dL_depositOf_13 : decode cL_depositOf 13 = .ok (.iconst 1, 1) := by decide +kernel
theorem dL_depositOf_14 : decode cL_depositOf 14 = .ok (.ireturn, 1) := by decide +kernel
theorem dL_depositOf_15 : decode cL_depositOf 15 = .ok (.astore_n 3, 1) := by decide +kernel
theorem dL_depositOf_16 : decode cL_depositOf 16 = .ok (.iconst 2, 1) := by decide +kernel
theorem dL_depositOf_17 : decode cL_depositOf 17 = .ok (.ireturn, 1) := by decide +kernel
theorem dL_depositOf_18 : decode cL_depositOf 18 = .ok (.iconst 0, 1) := by decide +kernel
theorem dL_depositOf_19 : decode cL_depositOf 19 = .ok (.ireturn, 1) := by decide +kernel
theorem dL_monthsLeft_0 : decode cL_monthsLeft 0 = .ok (.aload_n 2, 1) := by decide +kernel
theorem dL_monthsLeft_1 : decode cL_monthsLeft 1 = .ok (.iconst 0, 1) := by decide +kernel
theorem dL_monthsLeft_2 : decode cL_monthsLeft 2 = .ok (.aload_n 0, 1) := by decide +kernel
theorem dL_monthsLeft_3 : decode cL_monthsLeft 3 = .ok (.iload_n 1, 1) := by decide +kernel
theorem dL_monthsLeft_4 : decode cL_monthsLeft 4 = .ok (.invokevirtual 106, 3) := by decide +kernel
theorem dL_monthsLeft_7 : decode cL_monthsLeft 7 = .ok (.i2l, 1) := by decide +kernel
theorem dL_monthsLeft_8 : decode cL_monthsLeft 8 = .ok (.lastore, 1) := by decide +kernel
theorem dL_monthsLeft_9 : decode cL_monthsLeft 9 = .ok (.goto 9, 3) := by decide +kernel
theorem dL_monthsLeft_12 : decode cL_monthsLeft 12 = .ok (.astore_n 3, 1) := by decide +kernel
theorem dL_monthsLeft_13 : decode cL_monthsLeft 13 = .ok (.iconst 1, 1) := by decide +kernel
theorem dL_monthsLeft_14 : decode cL_monthsLeft 14 = .ok (.ireturn, 1) := by decide +kernel
theorem dL_monthsLeft_15 : decode cL_monthsLeft 15 = .ok (.astore_n 3, 1) := by decide +kernel
theorem dL_monthsLeft_16 : decode cL_monthsLeft 16 = .ok (.iconst 2, 1) := by decide +kernel
theorem dL_monthsLeft_17 : decode cL_monthsLeft 17 = .ok (.ireturn, 1) := by decide +kernel
theorem dL_monthsLeft_18 : decode cL_monthsLeft 18 = .ok (.iconst 0, 1) := by decide +kernel
theorem dL_monthsLeft_19 : decode cL_monthsLeft 19 = .ok (.ireturn, 1) := by decide +kernel
theorem dL_defaultMonth_0 : decode cL_defaultMonth 0 = .ok (.aload_n 2, 1) := by decide +kernel
theorem dL_defaultMonth_1 : decode cL_defaultMonth 1 = .ok (.iconst 0, 1) := by decide +kernel
theorem dL_defaultMonth_2 : decode cL_defaultMonth 2 = .ok (.aload_n 0, 1) := by decide +kernel
theorem dL_defaultMonth_3 : decode cL_defaultMonth 3 = .ok (.iload_n 1, 1) := by decide +kernel
theorem dL_defaultMonth_4 : decode cL_defaultMonth 4 = .ok (.invokevirtual 109, 3) := by decide +kernel
theorem dL_defaultMonth_7 : decode cL_defaultMonth 7 = .ok (.i2l, 1) := by decide +kernel
theorem dL_defaultMonth_8 : decode cL_defaultMonth 8 = .ok (.lastore, 1) := by decide +kernel
theorem dL_defaultMonth_9 : decode cL_defaultMonth 9 = .ok (.goto 9, 3) := by decide +kernel
theorem dL_defaultMonth_12 : decode cL_defaultMonth 12 = .ok (.astore_n 3, 1) := by decide +kernel
theorem dL_defaultMonth_13 : decode cL_defaultMonth 13 = .ok (.iconst 1, 1) := by decide +kernel
theorem dL_defaultMonth_14 : decode cL_defaultMonth 14 = .ok (.ireturn, 1) := by decide +kernel
theorem dL_defaultMonth_15 : decode cL_defaultMonth 15 = .ok (.astore_n 3, 1) := by decide +kernel
theorem dL_defaultMonth_16 : decode cL_defaultMonth 16 = .ok (.iconst 2, 1) := by decide +kernel
theorem dL_defaultMonth_17 : decode cL_defaultMonth 17 = .ok (.ireturn, 1) := by decide +kernel
theorem dL_defaultMonth_18 : decode cL_defaultMonth 18 = .ok (.iconst 0, 1) := by decide +kernel
theorem dL_defaultMonth_19 : decode cL_defaultMonth 19 = .ok (.ireturn, 1) := by decide +kernel
theorem dL_passMonths_0 : decode cL_passMonths 0 = .ok (.aload_n 2, 1) := by decide +kernel
theorem dL_passMonths_1 : decode cL_passMonths 1 = .ok (.iconst 0, 1) := by decide +kernel
theorem dL_passMonths_2 : decode cL_passMonths 2 = .ok (.aload_n 0, 1) := by decide +kernel
theorem dL_passMonths_3 : decode cL_passMonths 3 = .ok (.iload_n 1, 1) := by decide +kernel
theorem dL_passMonths_4 : decode cL_passMonths 4 = .ok (.invokevirtual 112, 3) := by decide +kernel
theorem dL_passMonths_7 : decode cL_passMonths 7 = .ok (.i2l, 1) := by decide +kernel
theorem dL_passMonths_8 : decode cL_passMonths 8 = .ok (.lastore, 1) := by decide +kernel
theorem dL_passMonths_9 : decode cL_passMonths 9 = .ok (.goto 6, 3) := by decide +kernel
theorem dL_passMonths_12 : decode cL_passMonths 12 = .ok (.astore_n 3, 1) := by decide +kernel
theorem dL_passMonths_13 : decode cL_passMonths 13 = .ok (.iconst 1, 1) := by decide +kernel
theorem dL_passMonths_14 : decode cL_passMonths 14 = .ok (.ireturn, 1) := by decide +kernel
theorem dL_passMonths_15 : decode cL_passMonths 15 = .ok (.iconst 0, 1) := by decide +kernel
theorem dL_passMonths_16 : decode cL_passMonths 16 = .ok (.ireturn, 1) := by decide +kernel
theorem dL_incomeWithin_0 : decode cL_incomeWithin 0 = .ok (.aload_n 2, 1) := by decide +kernel
theorem dL_incomeWithin_1 : decode cL_incomeWithin 1 = .ok (.iconst 0, 1) := by decide +kernel
theorem dL_incomeWithin_2 : decode cL_incomeWithin 2 = .ok (.aload_n 0, 1) := by decide +kernel
theorem dL_incomeWithin_3 : decode cL_incomeWithin 3 = .ok (.iload_n 1, 1) := by decide +kernel
theorem dL_incomeWithin_4 : decode cL_incomeWithin 4 = .ok (.invokevirtual 115, 3) := by decide +kernel
theorem dL_incomeWithin_7 : decode cL_incomeWithin 7 = .ok (.i2l, 1) := by decide +kernel
theorem dL_incomeWithin_8 : decode cL_incomeWithin 8 = .ok (.lastore, 1) := by decide +kernel
theorem dL_incomeWithin_9 : decode cL_incomeWithin 9 = .ok (.goto 6, 3) := by decide +kernel
theorem dL_incomeWithin_12 : decode cL_incomeWithin 12 = .ok (.astore_n 3, 1) := by decide +kernel
theorem dL_incomeWithin_13 : decode cL_incomeWithin 13 = .ok (.iconst 1, 1) := by decide +kernel
theorem dL_incomeWithin_14 : decode cL_incomeWithin 14 = .ok (.ireturn, 1) := by decide +kernel
theorem dL_incomeWithin_15 : decode cL_incomeWithin 15 = .ok (.iconst 0, 1) := by decide +kernel
theorem dL_incomeWithin_16 : decode cL_incomeWithin 16 = .ok (.ireturn, 1) := by decide +kernel
theorem dL_incomeByLeases_0 : decode cL_incomeByLeases 0 = .ok (.aload_n 2, 1) := by decide +kernel
theorem dL_incomeByLeases_1 : decode cL_incomeByLeases 1 = .ok (.iconst 0, 1) := by decide +kernel
theorem dL_incomeByLeases_2 : decode cL_incomeByLeases 2 = .ok (.aload_n 0, 1) := by decide +kernel
theorem dL_incomeByLeases_3 : decode cL_incomeByLeases 3 = .ok (.iload_n 1, 1) := by decide +kernel
theorem dL_incomeByLeases_4 : decode cL_incomeByLeases 4 = .ok (.invokevirtual 118, 3) := by decide +kernel
theorem dL_incomeByLeases_7 : decode cL_incomeByLeases 7 = .ok (.i2l, 1) := by decide +kernel
theorem dL_incomeByLeases_8 : decode cL_incomeByLeases 8 = .ok (.lastore, 1) := by decide +kernel
theorem dL_incomeByLeases_9 : decode cL_incomeByLeases 9 = .ok (.goto 6, 3) := by decide +kernel
theorem dL_incomeByLeases_12 : decode cL_incomeByLeases 12 = .ok (.astore_n 3, 1) := by decide +kernel
theorem dL_incomeByLeases_13 : decode cL_incomeByLeases 13 = .ok (.iconst 1, 1) := by decide +kernel
theorem dL_incomeByLeases_14 : decode cL_incomeByLeases 14 = .ok (.ireturn, 1) := by decide +kernel
theorem dL_incomeByLeases_15 : decode cL_incomeByLeases 15 = .ok (.iconst 0, 1) := by decide +kernel
theorem dL_incomeByLeases_16 : decode cL_incomeByLeases 16 = .ok (.ireturn, 1) := by decide +kernel
theorem dL_benchByRent_0 : decode cL_benchByRent 0 = .ok (.aload_n 2, 1) := by decide +kernel
theorem dL_benchByRent_1 : decode cL_benchByRent 1 = .ok (.iconst 0, 1) := by decide +kernel
theorem dL_benchByRent_2 : decode cL_benchByRent 2 = .ok (.aload_n 0, 1) := by decide +kernel
theorem dL_benchByRent_3 : decode cL_benchByRent 3 = .ok (.iload_n 1, 1) := by decide +kernel
theorem dL_benchByRent_4 : decode cL_benchByRent 4 = .ok (.invokevirtual 121, 3) := by decide +kernel
theorem dL_benchByRent_7 : decode cL_benchByRent 7 = .ok (.i2l, 1) := by decide +kernel
theorem dL_benchByRent_8 : decode cL_benchByRent 8 = .ok (.lastore, 1) := by decide +kernel
theorem dL_benchByRent_9 : decode cL_benchByRent 9 = .ok (.goto 6, 3) := by decide +kernel
theorem dL_benchByRent_12 : decode cL_benchByRent 12 = .ok (.astore_n 3, 1) := by decide +kernel
theorem dL_benchByRent_13 : decode cL_benchByRent 13 = .ok (.iconst 1, 1) := by decide +kernel
theorem dL_benchByRent_14 : decode cL_benchByRent 14 = .ok (.ireturn, 1) := by decide +kernel
theorem dL_benchByRent_15 : decode cL_benchByRent 15 = .ok (.iconst 0, 1) := by decide +kernel
theorem dL_benchByRent_16 : decode cL_benchByRent 16 = .ok (.ireturn, 1) := by decide +kernel
theorem dL_tenantByCoins_0 : decode cL_tenantByCoins 0 = .ok (.aload_n 2, 1) := by decide +kernel
theorem dL_tenantByCoins_1 : decode cL_tenantByCoins 1 = .ok (.iconst 0, 1) := by decide +kernel
theorem dL_tenantByCoins_2 : decode cL_tenantByCoins 2 = .ok (.aload_n 0, 1) := by decide +kernel
theorem dL_tenantByCoins_3 : decode cL_tenantByCoins 3 = .ok (.iload_n 1, 1) := by decide +kernel
theorem dL_tenantByCoins_4 : decode cL_tenantByCoins 4 = .ok (.invokevirtual 124, 3) := by decide +kernel
theorem dL_tenantByCoins_7 : decode cL_tenantByCoins 7 = .ok (.i2l, 1) := by decide +kernel
theorem dL_tenantByCoins_8 : decode cL_tenantByCoins 8 = .ok (.lastore, 1) := by decide +kernel
theorem dL_tenantByCoins_9 : decode cL_tenantByCoins 9 = .ok (.goto 6, 3) := by decide +kernel
theorem dL_tenantByCoins_12 : decode cL_tenantByCoins 12 = .ok (.astore_n 3, 1) := by decide +kernel
theorem dL_tenantByCoins_13 : decode cL_tenantByCoins 13 = .ok (.iconst 1, 1) := by decide +kernel
theorem dL_tenantByCoins_14 : decode cL_tenantByCoins 14 = .ok (.ireturn, 1) := by decide +kernel
theorem dL_tenantByCoins_15 : decode cL_tenantByCoins 15 = .ok (.iconst 0, 1) := by decide +kernel
theorem dL_tenantByCoins_16 : decode cL_tenantByCoins 16 = .ok (.ireturn, 1) := by decide +kernel
theorem dL_meanRent_0 : decode cL_meanRent 0 = .ok (.aload_n 1, 1) := by decide +kernel
theorem dL_meanRent_1 : decode cL_meanRent 1 = .ok (.iconst 0, 1) := by decide +kernel
theorem dL_meanRent_2 : decode cL_meanRent 2 = .ok (.aload_n 0, 1) := by decide +kernel
theorem dL_meanRent_3 : decode cL_meanRent 3 = .ok (.invokevirtual 127, 3) := by decide +kernel
theorem dL_meanRent_6 : decode cL_meanRent 6 = .ok (.dastore, 1) := by decide +kernel
theorem dL_meanRent_7 : decode cL_meanRent 7 = .ok (.goto 6, 3) := by decide +kernel
theorem dL_meanRent_10 : decode cL_meanRent 10 = .ok (.astore_n 2, 1) := by decide +kernel
theorem dL_meanRent_11 : decode cL_meanRent 11 = .ok (.iconst 1, 1) := by decide +kernel
theorem dL_meanRent_12 : decode cL_meanRent 12 = .ok (.ireturn, 1) := by decide +kernel
theorem dL_meanRent_13 : decode cL_meanRent 13 = .ok (.iconst 0, 1) := by decide +kernel
theorem dL_meanRent_14 : decode cL_meanRent 14 = .ok (.ireturn, 1) := by decide +kernel
theorem dL_letShare_0 : decode cL_letShare 0 = .ok (.aload_n 1, 1) := by decide +kernel
theorem dL_letShare_1 : decode cL_letShare 1 = .ok (.iconst 0, 1) := by decide +kernel
theorem dL_letShare_2 : decode cL_letShare 2 = .ok (.aload_n 0, 1) := by decide +kernel
theorem dL_letShare_3 : decode cL_letShare 3 = .ok (.invokevirtual 133, 3) := by decide +kernel
theorem dL_letShare_6 : decode cL_letShare 6 = .ok (.f2d, 1) := by decide +kernel
theorem dL_letShare_7 : decode cL_letShare 7 = .ok (.dastore, 1) := by decide +kernel
theorem dL_letShare_8 : decode cL_letShare 8 = .ok (.goto 6, 3) := by decide +kernel
theorem dL_letShare_11 : decode cL_letShare 11 = .ok (.astore_n 2, 1) := by decide +kernel
theorem dL_letShare_12 : decode cL_letShare 12 = .ok (.iconst 1, 1) := by decide +kernel
theorem dL_letShare_13 : decode cL_letShare 13 = .ok (.ireturn, 1) := by decide +kernel
theorem dL_letShare_14 : decode cL_letShare 14 = .ok (.iconst 0, 1) := by decide +kernel
theorem dL_letShare_15 : decode cL_letShare 15 = .ok (.ireturn, 1) := by decide +kernel
theorem dL_writeBench_0 : decode cL_writeBench 0 = .ok (.aload_n 2, 1) := by decide +kernel
theorem dL_writeBench_1 : decode cL_writeBench 1 = .ok (.iconst 0, 1) := by decide +kernel
theorem dL_writeBench_2 : decode cL_writeBench 2 = .ok (.aload_n 0, 1) := by decide +kernel
theorem dL_writeBench_3 : decode cL_writeBench 3 = .ok (.iload_n 1, 1) := by decide +kernel
theorem dL_writeBench_4 : decode cL_writeBench 4 = .ok (.invokevirtual 137, 3) := by decide +kernel
theorem dL_writeBench_7 : decode cL_writeBench 7 = .ok (.i2l, 1) := by decide +kernel
theorem dL_writeBench_8 : decode cL_writeBench 8 = .ok (.lastore, 1) := by decide +kernel
theorem dL_writeBench_9 : decode cL_writeBench 9 = .ok (.goto 6, 3) := by decide +kernel
theorem dL_writeBench_12 : decode cL_writeBench 12 = .ok (.astore_n 3, 1) := by decide +kernel
theorem dL_writeBench_13 : decode cL_writeBench 13 = .ok (.iconst 1, 1) := by decide +kernel
theorem dL_writeBench_14 : decode cL_writeBench 14 = .ok (.ireturn, 1) := by decide +kernel
theorem dL_writeBench_15 : decode cL_writeBench 15 = .ok (.iconst 0, 1) := by decide +kernel
theorem dL_writeBench_16 : decode cL_writeBench 16 = .ok (.ireturn, 1) := by decide +kernel
theorem dL_writeRow_0 : decode cL_writeRow 0 = .ok (.aload_n 2, 1) := by decide +kernel
theorem dL_writeRow_1 : decode cL_writeRow 1 = .ok (.iconst 0, 1) := by decide +kernel
theorem dL_writeRow_2 : decode cL_writeRow 2 = .ok (.aload_n 0, 1) := by decide +kernel
theorem dL_writeRow_3 : decode cL_writeRow 3 = .ok (.iload_n 1, 1) := by decide +kernel
theorem dL_writeRow_4 : decode cL_writeRow 4 = .ok (.invokevirtual 140, 3) := by decide +kernel
theorem dL_writeRow_7 : decode cL_writeRow 7 = .ok (.i2l, 1) := by decide +kernel
theorem dL_writeRow_8 : decode cL_writeRow 8 = .ok (.lastore, 1) := by decide +kernel
theorem dL_writeRow_9 : decode cL_writeRow 9 = .ok (.goto 6, 3) := by decide +kernel
theorem dL_writeRow_12 : decode cL_writeRow 12 = .ok (.astore_n 3, 1) := by decide +kernel
theorem dL_writeRow_13 : decode cL_writeRow 13 = .ok (.iconst 1, 1) := by decide +kernel
theorem dL_writeRow_14 : decode cL_writeRow 14 = .ok (.ireturn, 1) := by decide +kernel
theorem dL_writeRow_15 : decode cL_writeRow 15 = .ok (.iconst 0, 1) := by decide +kernel
theorem dL_writeRow_16 : decode cL_writeRow 16 = .ok (.ireturn, 1) := by decide +kernel
theorem dL_outputAt_0 : decode cL_outputAt 0 = .ok (.aload_n 2, 1) := by decide +kernel
theorem dL_outputAt_1 : decode cL_outputAt 1 = .ok (.iconst 0, 1) := by decide +kernel
theorem dL_outputAt_2 : decode cL_outputAt 2 = .ok (.aload_n 0, 1) := by decide +kernel
theorem dL_outputAt_3 : decode cL_outputAt 3 = .ok (.iload_n 1, 1) := by decide +kernel
theorem dL_outputAt_4 : decode cL_outputAt 4 = .ok (.invokevirtual 143, 3) := by decide +kernel
theorem dL_outputAt_7 : decode cL_outputAt 7 = .ok (.i2l, 1) := by decide +kernel
theorem dL_outputAt_8 : decode cL_outputAt 8 = .ok (.lastore, 1) := by decide +kernel
theorem dL_outputAt_9 : decode cL_outputAt 9 = .ok (.goto 6, 3) := by decide +kernel
theorem dL_outputAt_12 : decode cL_outputAt 12 = .ok (.astore_n 3, 1) := by decide +kernel
theorem dL_outputAt_13 : decode cL_outputAt 13 = .ok (.iconst 1, 1) := by decide +kernel
theorem dL_outputAt_14 : decode cL_outputAt 14 = .ok (.ireturn, 1) := by decide +kernel
theorem dL_outputAt_15 : decode cL_outputAt 15 = .ok (.iconst 0, 1) := by decide +kernel
theorem dL_outputAt_16 : decode cL_outputAt 16 = .ok (.ireturn, 1) := by decide +kernel
theorem dL_appendInput_0 : decode cL_appendInput 0 = .ok (.aload_n 2, 1) := by decide +kernel
theorem dL_appendInput_1 : decode cL_appendInput 1 = .ok (.iconst 0, 1) := by decide +kernel
theorem dL_appendInput_2 : decode cL_appendInput 2 = .ok (.aload_n 0, 1) := by decide +kernel
theorem dL_appendInput_3 : decode cL_appendInput 3 = .ok (.iload_n 1, 1) := by decide +kernel
theorem dL_appendInput_4 : decode cL_appendInput 4 = .ok (.invokevirtual 147, 3) := by decide +kernel
theorem dL_appendInput_7 : decode cL_appendInput 7 = .ok (.i2l, 1) := by decide +kernel
theorem dL_appendInput_8 : decode cL_appendInput 8 = .ok (.lastore, 1) := by decide +kernel
theorem dL_appendInput_9 : decode cL_appendInput 9 = .ok (.goto 9, 3) := by decide +kernel
theorem dL_appendInput_12 : decode cL_appendInput 12 = .ok (.astore_n 3, 1) := by decide +kernel
theorem dL_appendInput_13 : decode cL_appendInput 13 = .ok (.iconst 1, 1) := by decide +kernel
theorem dL_appendInput_14 : decode cL_appendInput 14 = .ok (.ireturn, 1) := by decide +kernel
theorem dL_appendInput_15 : decode cL_appendInput 15 = .ok (.astore_n 3, 1) := by decide +kernel
theorem dL_appendInput_16 : decode cL_appendInput 16 = .ok (.iconst 2, 1) := by decide +kernel
theorem dL_appendInput_17 : decode cL_appendInput 17 = .ok (.ireturn, 1) := by decide +kernel
theorem dL_appendInput_18 : decode cL_appendInput 18 = .ok (.iconst 0, 1) := by decide +kernel
theorem dL_appendInput_19 : decode cL_appendInput 19 = .ok (.ireturn, 1) := by decide +kernel
theorem dL_execute_0 : decode cL_execute 0 = .ok (.aload_n 1, 1) := by decide +kernel
theorem dL_execute_1 : decode cL_execute 1 = .ok (.iconst 0, 1) := by decide +kernel
theorem dL_execute_2 : decode cL_execute 2 = .ok (.aload_n 0, 1) := by decide +kernel
theorem dL_execute_3 : decode cL_execute 3 = .ok (.invokevirtual 153, 3) := by decide +kernel
theorem dL_execute_6 : decode cL_execute 6 = .ok (.i2l, 1) := by decide +kernel
theorem dL_execute_7 : decode cL_execute 7 = .ok (.lastore, 1) := by decide +kernel
theorem dL_execute_8 : decode cL_execute 8 = .ok (.goto 12, 3) := by decide +kernel
theorem dL_execute_11 : decode cL_execute 11 = .ok (.astore_n 2, 1) := by decide +kernel
theorem dL_execute_12 : decode cL_execute 12 = .ok (.iconst 1, 1) := by decide +kernel
theorem dL_execute_13 : decode cL_execute 13 = .ok (.ireturn, 1) := by decide +kernel
theorem dL_execute_14 : decode cL_execute 14 = .ok (.astore_n 2, 1) := by decide +kernel
theorem dL_execute_15 : decode cL_execute 15 = .ok (.iconst 2, 1) := by decide +kernel
theorem dL_execute_16 : decode cL_execute 16 = .ok (.ireturn, 1) := by decide +kernel
theorem dL_execute_17 : decode cL_execute 17 = .ok (.astore_n 2, 1) := by decide +kernel
theorem dL_execute_18 : decode cL_execute 18 = .ok (.iconst 3, 1) := by decide +kernel
theorem dL_execute_19 : decode cL_execute 19 = .ok (.ireturn, 1) := by decide +kernel
theorem dL_execute_20 : decode cL_execute 20 = .ok (.iconst 0, 1) := by decide +kernel
theorem dL_execute_21 : decode cL_execute 21 = .ok (.ireturn, 1) := by decide +kernel
theorem dL_syntaxErrorOffset_0 : decode cL_syntaxErrorOffset 0 = .ok (.aload_n 1, 1) := by decide +kernel
theorem dL_syntaxErrorOffset_1 : decode cL_syntaxErrorOffset 1 = .ok (.iconst 0, 1) := by decide +kernel
theorem dL_syntaxErrorOffset_2 : decode cL_syntaxErrorOffset 2 = .ok (.aload_n 0, 1) := by decide +kernel
theorem dL_syntaxErrorOffset_3 : decode cL_syntaxErrorOffset 3 = .ok (.invokevirtual 157, 3) := by decide +kernel
theorem dL_syntaxErrorOffset_6 : decode cL_syntaxErrorOffset 6 = .ok (.i2l, 1) := by decide +kernel
theorem dL_syntaxErrorOffset_7 : decode cL_syntaxErrorOffset 7 = .ok (.lastore, 1) := by decide +kernel
theorem dL_syntaxErrorOffset_8 : decode cL_syntaxErrorOffset 8 = .ok (.goto 6, 3) := by decide +kernel
theorem dL_syntaxErrorOffset_11 : decode cL_syntaxErrorOffset 11 = .ok (.astore_n 2, 1) := by decide +kernel
theorem dL_syntaxErrorOffset_12 : decode cL_syntaxErrorOffset 12 = .ok (.iconst 1, 1) := by decide +kernel
theorem dL_syntaxErrorOffset_13 : decode cL_syntaxErrorOffset 13 = .ok (.ireturn, 1) := by decide +kernel
theorem dL_syntaxErrorOffset_14 : decode cL_syntaxErrorOffset 14 = .ok (.iconst 0, 1) := by decide +kernel
theorem dL_syntaxErrorOffset_15 : decode cL_syntaxErrorOffset 15 = .ok (.ireturn, 1) := by decide +kernel
theorem dL_rejectionReason_0 : decode cL_rejectionReason 0 = .ok (.aload_n 1, 1) := by decide +kernel
theorem dL_rejectionReason_1 : decode cL_rejectionReason 1 = .ok (.iconst 0, 1) := by decide +kernel
theorem dL_rejectionReason_2 : decode cL_rejectionReason 2 = .ok (.aload_n 0, 1) := by decide +kernel
theorem dL_rejectionReason_3 : decode cL_rejectionReason 3 = .ok (.invokevirtual 160, 3) := by decide +kernel
theorem dL_rejectionReason_6 : decode cL_rejectionReason 6 = .ok (.i2l, 1) := by decide +kernel
theorem dL_rejectionReason_7 : decode cL_rejectionReason 7 = .ok (.lastore, 1) := by decide +kernel
theorem dL_rejectionReason_8 : decode cL_rejectionReason 8 = .ok (.goto 6, 3) := by decide +kernel
theorem dL_rejectionReason_11 : decode cL_rejectionReason 11 = .ok (.astore_n 2, 1) := by decide +kernel
theorem dL_rejectionReason_12 : decode cL_rejectionReason 12 = .ok (.iconst 1, 1) := by decide +kernel
theorem dL_rejectionReason_13 : decode cL_rejectionReason 13 = .ok (.ireturn, 1) := by decide +kernel
theorem dL_rejectionReason_14 : decode cL_rejectionReason 14 = .ok (.iconst 0, 1) := by decide +kernel
theorem dL_rejectionReason_15 : decode cL_rejectionReason 15 = .ok (.ireturn, 1) := by decide +kernel
theorem dL_rejectionDetail_0 : decode cL_rejectionDetail 0 = .ok (.aload_n 1, 1) := by decide +kernel
theorem dL_rejectionDetail_1 : decode cL_rejectionDetail 1 = .ok (.iconst 0, 1) := by decide +kernel
theorem dL_rejectionDetail_2 : decode cL_rejectionDetail 2 = .ok (.aload_n 0, 1) := by decide +kernel
theorem dL_rejectionDetail_3 : decode cL_rejectionDetail 3 = .ok (.invokevirtual 163, 3) := by decide +kernel
theorem dL_rejectionDetail_6 : decode cL_rejectionDetail 6 = .ok (.i2l, 1) := by decide +kernel
theorem dL_rejectionDetail_7 : decode cL_rejectionDetail 7 = .ok (.lastore, 1) := by decide +kernel
theorem dL_rejectionDetail_8 : decode cL_rejectionDetail 8 = .ok (.goto 6, 3) := by decide +kernel
theorem dL_rejectionDetail_11 : decode cL_rejectionDetail 11 = .ok (.astore_n 2, 1) := by decide +kernel
theorem dL_rejectionDetail_12 : decode cL_rejectionDetail 12 = .ok (.iconst 1, 1) := by decide +kernel
theorem dL_rejectionDetail_13 : decode cL_rejectionDetail 13 = .ok (.ireturn, 1) := by decide +kernel
theorem dL_rejectionDetail_14 : decode cL_rejectionDetail 14 = .ok (.iconst 0, 1) := by decide +kernel
theorem dL_rejectionDetail_15 : decode cL_rejectionDetail 15 = .ok (.ireturn, 1) := by decide +kernel
theorem dL_causeReason_0 : decode cL_causeReason 0 = .ok (.aload_n 1, 1) := by decide +kernel
theorem dL_causeReason_1 : decode cL_causeReason 1 = .ok (.iconst 0, 1) := by decide +kernel
theorem dL_causeReason_2 : decode cL_causeReason 2 = .ok (.aload_n 0, 1) := by decide +kernel
theorem dL_causeReason_3 : decode cL_causeReason 3 = .ok (.invokevirtual 166, 3) := by decide +kernel
theorem dL_causeReason_6 : decode cL_causeReason 6 = .ok (.i2l, 1) := by decide +kernel
theorem dL_causeReason_7 : decode cL_causeReason 7 = .ok (.lastore, 1) := by decide +kernel
theorem dL_causeReason_8 : decode cL_causeReason 8 = .ok (.goto 6, 3) := by decide +kernel
theorem dL_causeReason_11 : decode cL_causeReason 11 = .ok (.astore_n 2, 1) := by decide +kernel
theorem dL_causeReason_12 : decode cL_causeReason 12 = .ok (.iconst 1, 1) := by decide +kernel
theorem dL_causeReason_13 : decode cL_causeReason 13 = .ok (.ireturn, 1) := by decide +kernel
theorem dL_causeReason_14 : decode cL_causeReason 14 = .ok (.iconst 0, 1) := by decide +kernel
theorem dL_causeReason_15 : decode cL_causeReason 15 = .ok (.ireturn, 1) := by decide +kernel
theorem dL_undo_0 : decode cL_undo 0 = .ok (.aload_n 1, 1) := by decide +kernel
theorem dL_undo_1 : decode cL_undo 1 = .ok (.iconst 0, 1) := by decide +kernel
theorem dL_undo_2 : decode cL_undo 2 = .ok (.aload_n 0, 1) := by decide +kernel
theorem dL_undo_3 : decode cL_undo 3 = .ok (.invokevirtual 169, 3) := by decide +kernel
theorem dL_undo_6 : decode cL_undo 6 = .ok (.i2l, 1) := by decide +kernel
theorem dL_undo_7 : decode cL_undo 7 = .ok (.lastore, 1) := by decide +kernel
theorem dL_undo_8 : decode cL_undo 8 = .ok (.goto 6, 3) := by decide +kernel
theorem dL_undo_11 : decode cL_undo 11 = .ok (.astore_n 2, 1) := by decide +kernel
theorem dL_undo_12 : decode cL_undo 12 = .ok (.iconst 1, 1) := by decide +kernel
theorem dL_undo_13 : decode cL_undo 13 = .ok (.ireturn, 1) := by decide +kernel
theorem dL_undo_14 : decode cL_undo 14 = .ok (.iconst 0, 1) := by decide +kernel
theorem dL_undo_15 : decode cL_undo 15 = .ok (.ireturn, 1) := by decide +kernel
theorem dL_restoreSnapshot_0 : decode cL_restoreSnapshot 0 = .ok (.aload_n 1, 1) := by decide +kernel
theorem dL_restoreSnapshot_1 : decode cL_restoreSnapshot 1 = .ok (.iconst 0, 1) := by decide +kernel
theorem dL_restoreSnapshot_2 : decode cL_restoreSnapshot 2 = .ok (.aload_n 0, 1) := by decide +kernel
theorem dL_restoreSnapshot_3 : decode cL_restoreSnapshot 3 = .ok (.invokevirtual 172, 3) := by decide +kernel
theorem dL_restoreSnapshot_6 : decode cL_restoreSnapshot 6 = .ok (.i2l, 1) := by decide +kernel
theorem dL_restoreSnapshot_7 : decode cL_restoreSnapshot 7 = .ok (.lastore, 1) := by decide +kernel
theorem dL_restoreSnapshot_8 : decode cL_restoreSnapshot 8 = .ok (.goto 6, 3) := by decide +kernel
theorem dL_restoreSnapshot_11 : decode cL_restoreSnapshot 11 = .ok (.astore_n 2, 1) := by decide +kernel
theorem dL_restoreSnapshot_12 : decode cL_restoreSnapshot 12 = .ok (.iconst 1, 1) := by decide +kernel
theorem dL_restoreSnapshot_13 : decode cL_restoreSnapshot 13 = .ok (.ireturn, 1) := by decide +kernel
theorem dL_restoreSnapshot_14 : decode cL_restoreSnapshot 14 = .ok (.iconst 0, 1) := by decide +kernel
theorem dL_restoreSnapshot_15 : decode cL_restoreSnapshot 15 = .ok (.ireturn, 1) := by decide +kernel
