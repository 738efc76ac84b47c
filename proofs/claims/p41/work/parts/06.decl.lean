theorem dL_cell_0 : decode cL_cell 0 = .ok (.iload_n 1, 1) := by decide +kernel
theorem dL_cell_1 : decode cL_cell 1 = .ok (.aload_n 0, 1) := by decide +kernel
theorem dL_cell_2 : decode cL_cell 2 = .ok (.arraylength, 1) := by decide +kernel
theorem dL_cell_3 : decode cL_cell 3 = .ok (.if_icmp .ge 9, 3) := by decide +kernel
theorem dL_cell_6 : decode cL_cell 6 = .ok (.aload_n 0, 1) := by decide +kernel
theorem dL_cell_7 : decode cL_cell 7 = .ok (.iload_n 1, 1) := by decide +kernel
theorem dL_cell_8 : decode cL_cell 8 = .ok (.iaload, 1) := by decide +kernel
theorem dL_cell_9 : decode cL_cell 9 = .ok (.goto 7, 3) := by decide +kernel
theorem dL_cell_12 : decode cL_cell 12 = .ok (.ldc 7, 2) := by decide +kernel
theorem dL_cell_14 : decode cL_cell 14 = .ok (.iload_n 1, 1) := by decide +kernel
theorem dL_cell_15 : decode cL_cell 15 = .ok (.imul, 1) := by decide +kernel
theorem dL_cell_16 : decode cL_cell 16 = .ok (.ireturn, 1) := by decide +kernel
theorem dL_bar_0 : decode cL_bar 0 = .ok (.aload_n 0, 1) := by decide +kernel
theorem dL_bar_1 : decode cL_bar 1 = .ok (.iload_n 1, 1) := by decide +kernel
theorem dL_bar_2 : decode cL_bar 2 = .ok (.invokevirtual 8, 3) := by decide +kernel
theorem dL_bar_5 : decode cL_bar 5 = .ok (.ireturn, 1) := by decide +kernel
theorem dL_bar_6 : decode cL_bar 6 = .ok (.astore_n 2, 1) := by decide +kernel
theorem dL_bar_7 : decode cL_bar 7 = .ok (.iconst (-1), 1) := by decide +kernel
theorem dL_bar_8 : decode cL_bar 8 = .ok (.ireturn, 1) := by decide +kernel
theorem dL_bar_9 : decode cL_bar 9 = .ok (.astore_n 2, 1) := by decide +kernel
theorem dL_bar_10 : decode cL_bar 10 = .ok (.bipush (-2), 2) := by decide +kernel
theorem dL_bar_12 : decode cL_bar 12 = .ok (.ireturn, 1) := by decide +kernel
theorem dL_key_0 : decode cL_key 0 = .ok (.aload_n 0, 1) := by decide +kernel
theorem dL_key_1 : decode cL_key 1 = .ok (.iload_n 1, 1) := by decide +kernel
theorem dL_key_2 : decode cL_key 2 = .ok (.iload_n 2, 1) := by decide +kernel
theorem dL_key_3 : decode cL_key 3 = .ok (.invokevirtual 18, 3) := by decide +kernel
theorem dL_key_6 : decode cL_key 6 = .ok (.ireturn, 1) := by decide +kernel
theorem dL_key_7 : decode cL_key 7 = .ok (.astore_n 3, 1) := by decide +kernel
theorem dL_key_8 : decode cL_key 8 = .ok (.iconst (-1), 1) := by decide +kernel
theorem dL_key_9 : decode cL_key 9 = .ok (.ireturn, 1) := by decide +kernel
theorem dL_key_10 : decode cL_key 10 = .ok (.astore_n 3, 1) := by decide +kernel
theorem dL_key_11 : decode cL_key 11 = .ok (.bipush (-2), 2) := by decide +kernel
theorem dL_key_13 : decode cL_key 13 = .ok (.ireturn, 1) := by decide +kernel
theorem dL_key_14 : decode cL_key 14 = .ok (.astore_n 3, 1) := by decide +kernel
theorem dL_key_15 : decode cL_key 15 = .ok (.bipush (-3), 2) := by decide +kernel
theorem dL_key_17 : decode cL_key 17 = .ok (.ireturn, 1) := by decide +kernel
theorem dL_leak_0 : decode cL_leak 0 = .ok (.aload_n 0, 1) := by decide +kernel
theorem dL_leak_1 : decode cL_leak 1 = .ok (.iload_n 1, 1) := by decide +kernel
theorem dL_leak_2 : decode cL_leak 2 = .ok (.iload_n 2, 1) := by decide +kernel
theorem dL_leak_3 : decode cL_leak 3 = .ok (.invokevirtual 24, 3) := by decide +kernel
theorem dL_leak_6 : decode cL_leak 6 = .ok (.ireturn, 1) := by decide +kernel
theorem dL_leak_7 : decode cL_leak 7 = .ok (.astore_n 3, 1) := by decide +kernel
theorem dL_leak_8 : decode cL_leak 8 = .ok (.iconst (-1), 1) := by decide +kernel
theorem dL_leak_9 : decode cL_leak 9 = .ok (.ireturn, 1) := by decide +kernel
theorem dL_leak_10 : decode cL_leak 10 = .ok (.astore_n 3, 1) := by decide +kernel
theorem dL_leak_11 : decode cL_leak 11 = .ok (.bipush (-2), 2) := by decide +kernel
theorem dL_leak_13 : decode cL_leak 13 = .ok (.ireturn, 1) := by decide +kernel
theorem dL_leak_14 : decode cL_leak 14 = .ok (.astore_n 3, 1) := by decide +kernel
theorem dL_leak_15 : decode cL_leak 15 = .ok (.bipush (-3), 2) := by decide +kernel
theorem dL_leak_17 : decode cL_leak 17 = .ok (.ireturn, 1) := by decide +kernel
theorem dL_drop_0 : decode cL_drop 0 = .ok (.aload_n 0, 1) := by decide +kernel
theorem dL_drop_1 : decode cL_drop 1 = .ok (.iload_n 1, 1) := by decide +kernel
theorem dL_drop_2 : decode cL_drop 2 = .ok (.iload_n 2, 1) := by decide +kernel
theorem dL_drop_3 : decode cL_drop 3 = .ok (.iload_n 3, 1) := by decide +kernel
theorem dL_drop_4 : decode cL_drop 4 = .ok (.invokevirtual 27, 3) := by decide +kernel
theorem dL_drop_7 : decode cL_drop 7 = .ok (.ireturn, 1) := by decide +kernel
theorem dL_drop_8 : decode cL_drop 8 = .ok (.astore 4, 2) := by decide +kernel
theorem dL_drop_10 : decode cL_drop 10 = .ok (.iconst (-1), 1) := by decide +kernel
theorem dL_drop_11 : decode cL_drop 11 = .ok (.ireturn, 1) := by decide +kernel
theorem dL_drop_12 : decode cL_drop 12 = .ok (.astore 4, 2) := by decide +kernel
theorem dL_drop_14 : decode cL_drop 14 = .ok (.bipush (-2), 2) := by decide +kernel
theorem dL_drop_16 : decode cL_drop 16 = .ok (.ireturn, 1) := by decide +kernel
theorem dL_drop_17 : decode cL_drop 17 = .ok (.astore 4, 2) := by decide +kernel
theorem dL_drop_19 : decode cL_drop 19 = .ok (.bipush (-3), 2) := by decide +kernel
theorem dL_drop_21 : decode cL_drop 21 = .ok (.ireturn, 1) := by decide +kernel
theorem dL_rest_0 : decode cL_rest 0 = .ok (.aload_n 0, 1) := by decide +kernel
theorem dL_rest_1 : decode cL_rest 1 = .ok (.iload_n 1, 1) := by decide +kernel
theorem dL_rest_2 : decode cL_rest 2 = .ok (.invokevirtual 31, 3) := by decide +kernel
theorem dL_rest_5 : decode cL_rest 5 = .ok (.ireturn, 1) := by decide +kernel
theorem dL_rest_6 : decode cL_rest 6 = .ok (.astore_n 2, 1) := by decide +kernel
theorem dL_rest_7 : decode cL_rest 7 = .ok (.iconst (-1), 1) := by decide +kernel
theorem dL_rest_8 : decode cL_rest 8 = .ok (.ireturn, 1) := by decide +kernel
theorem dL_rest_9 : decode cL_rest 9 = .ok (.astore_n 2, 1) := by decide +kernel
theorem dL_rest_10 : decode cL_rest 10 = .ok (.bipush (-3), 2) := by decide +kernel
theorem dL_rest_12 : decode cL_rest 12 = .ok (.ireturn, 1) := by decide +kernel
theorem dL_lift_0 : decode cL_lift 0 = .ok (.aload_n 0, 1) := by decide +kernel
theorem dL_lift_1 : decode cL_lift 1 = .ok (.invokevirtual 34, 3) := by decide +kernel
theorem dL_lift_4 : decode cL_lift 4 = .ok (.ireturn, 1) := by decide +kernel
theorem dL_lift_5 : decode cL_lift 5 = .ok (.astore_n 1, 1) := by decide +kernel
theorem dL_lift_6 : decode cL_lift 6 = .ok (.bipush (-3), 2) := by decide +kernel
theorem dL_lift_8 : decode cL_lift 8 = .ok (.ireturn, 1) := by decide +kernel
theorem dL_limit_0 : decode cL_limit 0 = .ok (.aload_n 0, 1) := by decide +kernel
theorem dL_limit_1 : decode cL_limit 1 = .ok (.iload_n 1, 1) := by decide +kernel
theorem dL_limit_2 : decode cL_limit 2 = .ok (.invokevirtual 38, 3) := by decide +kernel
theorem dL_limit_5 : decode cL_limit 5 = .ok (.ireturn, 1) := by decide +kernel
theorem dL_limit_6 : decode cL_limit 6 = .ok (.astore_n 2, 1) := by decide +kernel
theorem dL_limit_7 : decode cL_limit 7 = .ok (.bipush (-2), 2) := by decide +kernel
theorem dL_limit_9 : decode cL_limit 9 = .ok (.ireturn, 1) := by decide +kernel
theorem dL_limit_10 : decode cL_limit 10 = .ok (.astore_n 2, 1) := by decide +kernel
theorem dL_limit_11 : decode cL_limit 11 = .ok (.bipush (-3), 2) := by decide +kernel
theorem dL_limit_13 : decode cL_limit 13 = .ok (.ireturn, 1) := by decide +kernel
theorem dL_tune_0 : decode cL_tune 0 = .ok (.aload_n 0, 1) := by decide +kernel
theorem dL_tune_1 : decode cL_tune 1 = .ok (.iload_n 1, 1) := by decide +kernel
theorem dL_tune_2 : decode cL_tune 2 = .ok (.iload_n 2, 1) := by decide +kernel
theorem dL_tune_3 : decode cL_tune 3 = .ok (.invokevirtual 41, 3) := by decide +kernel
theorem dL_tune_6 : decode cL_tune 6 = .ok (.ireturn, 1) := by decide +kernel
theorem dL_tune_7 : decode cL_tune 7 = .ok (.astore_n 3, 1) := by decide +kernel
theorem dL_tune_8 : decode cL_tune 8 = .ok (.iconst (-1), 1) := by decide +kernel
theorem dL_tune_9 : decode cL_tune 9 = .ok (.ireturn, 1) := by decide +kernel
theorem dL_tune_10 : decode cL_tune 10 = .ok (.astore_n 3, 1) := by decide +kernel
theorem dL_tune_11 : decode cL_tune 11 = .ok (.bipush (-2), 2) := by decide +kernel
theorem dL_tune_13 : decode cL_tune 13 = .ok (.ireturn, 1) := by decide +kernel
theorem dL_tune_14 : decode cL_tune 14 = .ok (.astore_n 3, 1) := by decide +kernel
theorem dL_tune_15 : decode cL_tune 15 = .ok (.bipush (-3), 2) := by decide +kernel
theorem dL_tune_17 : decode cL_tune 17 = .ok (.ireturn, 1) := by decide +kernel
theorem dL_tinOf_0 : decode cL_tinOf 0 = .ok (.aload_n 0, 1) := by decide +kernel
theorem dL_tinOf_1 : decode cL_tinOf 1 = .ok (.iload_n 1, 1) := by decide +kernel
theorem dL_tinOf_2 : decode cL_tinOf 2 = .ok (.iload_n 2, 1) := by decide +kernel
theorem dL_tinOf_3 : decode cL_tinOf 3 = .ok (.invokevirtual 44, 3) := by decide +kernel
theorem dL_tinOf_6 : decode cL_tinOf 6 = .ok (.ireturn, 1) := by decide +kernel
theorem dL_tinOf_7 : decode cL_tinOf 7 = .ok (.astore_n 3, 1) := by decide +kernel
theorem dL_tinOf_8 : decode cL_tinOf 8 = .ok (.bipush (-11), 2) := by decide +kernel
theorem dL_tinOf_10 : decode cL_tinOf 10 = .ok (.ireturn, 1) := by decide +kernel
theorem dL_tinOf_11 : decode cL_tinOf 11 = .ok (.astore_n 3, 1) := by decide +kernel
theorem dL_tinOf_12 : decode cL_tinOf 12 = .ok (.bipush (-12), 2) := by decide +kernel
theorem dL_tinOf_14 : decode cL_tinOf 14 = .ok (.ireturn, 1) := by decide +kernel
theorem dL_of_0 : decode cL_of 0 = .ok (.aload_n 0, 1) := by decide +kernel
theorem dL_of_1 : decode cL_of 1 = .ok (.iload_n 1, 1) := by decide +kernel
theorem dL_of_2 : decode cL_of 2 = .ok (.iload_n 2, 1) := by decide +kernel
theorem dL_of_3 : decode cL_of 3 = .ok (.invokevirtual 47, 3) := by decide +kernel
theorem dL_of_6 : decode cL_of 6 = .ok (.ireturn, 1) := by decide +kernel
theorem dL_of_7 : decode cL_of 7 = .ok (.astore_n 3, 1) := by decide +kernel
theorem dL_of_8 : decode cL_of 8 = .ok (.bipush (-11), 2) := by decide +kernel
theorem dL_of_10 : decode cL_of 10 = .ok (.ireturn, 1) := by decide +kernel
theorem dL_of_11 : decode cL_of 11 = .ok (.astore_n 3, 1) := by decide +kernel
theorem dL_of_12 : decode cL_of 12 = .ok (.bipush (-12), 2) := by decide +kernel
theorem dL_of_14 : decode cL_of 14 = .ok (.ireturn, 1) := by decide +kernel
theorem dL_barOf_0 : decode cL_barOf 0 = .ok (.aload_n 0, 1) := by decide +kernel
theorem dL_barOf_1 : decode cL_barOf 1 = .ok (.iload_n 1, 1) := by decide +kernel
theorem dL_barOf_2 : decode cL_barOf 2 = .ok (.iload_n 2, 1) := by decide +kernel
theorem dL_barOf_3 : decode cL_barOf 3 = .ok (.invokevirtual 50, 3) := by decide +kernel
theorem dL_barOf_6 : decode cL_barOf 6 = .ok (.ireturn, 1) := by decide +kernel
theorem dL_barOf_7 : decode cL_barOf 7 = .ok (.astore_n 3, 1) := by decide +kernel
theorem dL_barOf_8 : decode cL_barOf 8 = .ok (.bipush (-11), 2) := by decide +kernel
theorem dL_barOf_10 : decode cL_barOf 10 = .ok (.ireturn, 1) := by decide +kernel
theorem dL_barOf_11 : decode cL_barOf 11 = .ok (.astore_n 3, 1) := by decide +kernel
theorem dL_barOf_12 : decode cL_barOf 12 = .ok (.bipush (-12), 2) := by decide +kernel
theorem dL_barOf_14 : decode cL_barOf 14 = .ok (.ireturn, 1) := by decide +kernel
theorem dL_part_0 : decode cL_part 0 = .ok (.aload_n 0, 1) := by decide +kernel
theorem dL_part_1 : decode cL_part 1 = .ok (.iload_n 1, 1) := by decide +kernel
theorem dL_part_2 : decode cL_part 2 = .ok (.iload_n 2, 1) := by decide +kernel
theorem dL_part_3 : decode cL_part 3 = .ok (.iload_n 3, 1) := by decide +kernel
theorem dL_part_4 : decode cL_part 4 = .ok (.invokevirtual 53, 3) := by decide +kernel
theorem dL_part_7 : decode cL_part 7 = .ok (.ireturn, 1) := by decide +kernel
theorem dL_part_8 : decode cL_part 8 = .ok (.astore 4, 2) := by decide +kernel
theorem dL_part_10 : decode cL_part 10 = .ok (.bipush (-11), 2) := by decide +kernel
theorem dL_part_12 : decode cL_part 12 = .ok (.ireturn, 1) := by decide +kernel
theorem dL_part_13 : decode cL_part 13 = .ok (.astore 4, 2) := by decide +kernel
theorem dL_part_15 : decode cL_part 15 = .ok (.bipush (-12), 2) := by decide +kernel
theorem dL_part_17 : decode cL_part 17 = .ok (.ireturn, 1) := by decide +kernel
theorem dL_at_0 : decode cL_at 0 = .ok (.aload_n 0, 1) := by decide +kernel
theorem dL_at_1 : decode cL_at 1 = .ok (.iload_n 1, 1) := by decide +kernel
theorem dL_at_2 : decode cL_at 2 = .ok (.invokevirtual 56, 3) := by decide +kernel
theorem dL_at_5 : decode cL_at 5 = .ok (.ireturn, 1) := by decide +kernel
theorem dL_at_6 : decode cL_at 6 = .ok (.astore_n 2, 1) := by decide +kernel
theorem dL_at_7 : decode cL_at 7 = .ok (.bipush (-13), 2) := by decide +kernel
theorem dL_at_9 : decode cL_at 9 = .ok (.ireturn, 1) := by decide +kernel
theorem dL_faults_0 : decode cL_faults 0 = .ok (.aload_n 0, 1) := by decide +kernel
theorem dL_faults_1 : decode cL_faults 1 = .ok (.iload_n 1, 1) := by decide +kernel
theorem dL_faults_2 : decode cL_faults 2 = .ok (.iload_n 2, 1) := by decide +kernel
theorem dL_faults_3 : decode cL_faults 3 = .ok (.invokevirtual 61, 3) := by decide +kernel
theorem dL_faults_6 : decode cL_faults 6 = .ok (.ireturn, 1) := by decide +kernel
theorem dL_faults_7 : decode cL_faults 7 = .ok (.astore_n 3, 1) := by decide +kernel
theorem dL_faults_8 : decode cL_faults 8 = .ok (.bipush (-12), 2) := by decide +kernel
theorem dL_faults_10 : decode cL_faults 10 = .ok (.ireturn, 1) := by decide +kernel
theorem dL_firstFault_0 : decode cL_firstFault 0 = .ok (.aload_n 0, 1) := by decide +kernel
theorem dL_firstFault_1 : decode cL_firstFault 1 = .ok (.iload_n 1, 1) := by decide +kernel
theorem dL_firstFault_2 : decode cL_firstFault 2 = .ok (.invokevirtual 65, 3) := by decide +kernel
theorem dL_firstFault_5 : decode cL_firstFault 5 = .ok (.ireturn, 1) := by decide +kernel
theorem dL_firstFault_6 : decode cL_firstFault 6 = .ok (.astore_n 2, 1) := by decide +kernel
theorem dL_firstFault_7 : decode cL_firstFault 7 = .ok (.bipush (-12), 2) := by decide +kernel
theorem dL_firstFault_9 : decode cL_firstFault 9 = .ok (.ireturn, 1) := by decide +kernel
theorem dL_firstFault_10 : decode cL_firstFault 10 = .ok (.astore_n 2, 1) := by decide +kernel
theorem dL_firstFault_11 : decode cL_firstFault 11 = .ok (.bipush (-13), 2) := by decide +kernel
theorem dL_firstFault_13 : decode cL_firstFault 13 = .ok (.ireturn, 1) := by decide +kernel
theorem dL_wouldFault_0 : decode cL_wouldFault 0 = .ok (.aload_n 0, 1) := by decide +kernel
theorem dL_wouldFault_1 : decode cL_wouldFault 1 = .ok (.iload_n 1, 1) := by decide +kernel
theorem dL_wouldFault_2 : decode cL_wouldFault 2 = .ok (.iload_n 2, 1) := by decide +kernel
theorem dL_wouldFault_3 : decode cL_wouldFault 3 = .ok (.invokevirtual 68, 3) := by decide +kernel
theorem dL_wouldFault_6 : decode cL_wouldFault 6 = .ok (.ireturn, 1) := by decide +kernel
theorem dL_wouldFault_7 : decode cL_wouldFault 7 = .ok (.astore_n 3, 1) := by decide +kernel
theorem dL_wouldFault_8 : decode cL_wouldFault 8 = .ok (.bipush (-11), 2) := by decide +kernel
theorem dL_wouldFault_10 : decode cL_wouldFault 10 = .ok (.ireturn, 1) := by decide +kernel
theorem dL_wouldFault_11 : decode cL_wouldFault 11 = .ok (.astore_n 3, 1) := by decide +kernel
theorem dL_wouldFault_12 : decode cL_wouldFault 12 = .ok (.bipush (-12), 2) := by decide +kernel
theorem dL_wouldFault_14 : decode cL_wouldFault 14 = .ok (.ireturn, 1) := by decide +kernel
theorem dL_wouldFault_15 : decode cL_wouldFault 15 = .ok (.astore_n 3, 1) := by decide +kernel
theorem dL_wouldFault_16 : decode cL_wouldFault 16 = .ok (.bipush (-13), 2) := by decide +kernel
theorem dL_wouldFault_18 : decode cL_wouldFault 18 = .ok (.ireturn, 1) := by decide +kernel
theorem dL_bestHeight_0 : decode cL_bestHeight 0 = .ok (.aload_n 0, 1) := by decide +kernel
theorem dL_bestHeight_1 : decode cL_bestHeight 1 = .ok (.iload_n 1, 1) := by decide +kernel
theorem dL_bestHeight_2 : decode cL_bestHeight 2 = .ok (.invokevirtual 71, 3) := by decide +kernel
theorem dL_bestHeight_5 : decode cL_bestHeight 5 = .ok (.ireturn, 1) := by decide +kernel
theorem dL_bestHeight_6 : decode cL_bestHeight 6 = .ok (.astore_n 2, 1) := by decide +kernel
theorem dL_bestHeight_7 : decode cL_bestHeight 7 = .ok (.bipush (-11), 2) := by decide +kernel
theorem dL_bestHeight_9 : decode cL_bestHeight 9 = .ok (.ireturn, 1) := by decide +kernel
theorem dL_bestHeight_10 : decode cL_bestHeight 10 = .ok (.astore_n 2, 1) := by decide +kernel
theorem dL_bestHeight_11 : decode cL_bestHeight 11 = .ok (.bipush (-13), 2) := by decide +kernel
theorem dL_bestHeight_13 : decode cL_bestHeight 13 = .ok (.ireturn, 1) := by decide +kernel
theorem dL_withPitch_0 : decode cL_withPitch 0 = .ok (.aload_n 0, 1) := by decide +kernel
theorem dL_withPitch_1 : decode cL_withPitch 1 = .ok (.iload_n 1, 1) := by decide +kernel
theorem dL_withPitch_2 : decode cL_withPitch 2 = .ok (.invokevirtual 74, 3) := by decide +kernel
theorem dL_withPitch_5 : decode cL_withPitch 5 = .ok (.ireturn, 1) := by decide +kernel
theorem dL_withPitch_6 : decode cL_withPitch 6 = .ok (.astore_n 2, 1) := by decide +kernel
theorem dL_withPitch_7 : decode cL_withPitch 7 = .ok (.bipush (-12), 2) := by decide +kernel
theorem dL_withPitch_9 : decode cL_withPitch 9 = .ok (.ireturn, 1) := by decide +kernel
theorem dL_loudest_0 : decode cL_loudest 0 = .ok (.aload_n 0, 1) := by decide +kernel
theorem dL_loudest_1 : decode cL_loudest 1 = .ok (.iload_n 1, 1) := by decide +kernel
theorem dL_loudest_2 : decode cL_loudest 2 = .ok (.invokevirtual 77, 3) := by decide +kernel
theorem dL_loudest_5 : decode cL_loudest 5 = .ok (.ireturn, 1) := by decide +kernel
theorem dL_loudest_6 : decode cL_loudest 6 = .ok (.astore_n 2, 1) := by decide +kernel
theorem dL_loudest_7 : decode cL_loudest 7 = .ok (.bipush (-13), 2) := by decide +kernel
theorem dL_loudest_9 : decode cL_loudest 9 = .ok (.ireturn, 1) := by decide +kernel
theorem dL_highest_0 : decode cL_highest 0 = .ok (.aload_n 0, 1) := by decide +kernel
theorem dL_highest_1 : decode cL_highest 1 = .ok (.iload_n 1, 1) := by decide +kernel
theorem dL_highest_2 : decode cL_highest 2 = .ok (.invokevirtual 80, 3) := by decide +kernel
theorem dL_highest_5 : decode cL_highest 5 = .ok (.ireturn, 1) := by decide +kernel
theorem dL_highest_6 : decode cL_highest 6 = .ok (.astore_n 2, 1) := by decide +kernel
theorem dL_highest_7 : decode cL_highest 7 = .ok (.bipush (-13), 2) := by decide +kernel
theorem dL_highest_9 : decode cL_highest 9 = .ok (.ireturn, 1) := by decide +kernel
theorem dL_line_0 : decode cL_line 0 = .ok (.aload_n 0, 1) := by decide +kernel
theorem dL_line_1 : decode cL_line 1 = .ok (.iload_n 1, 1) := by decide +kernel
theorem dL_line_2 : decode cL_line 2 = .ok (.invokevirtual 83, 3) := by decide +kernel
theorem dL_line_5 : decode cL_line 5 = .ok (.ireturn, 1) := by decide +kernel
theorem dL_line_6 : decode cL_line 6 = .ok (.astore_n 2, 1) := by decide +kernel
theorem dL_line_7 : decode cL_line 7 = .ok (.bipush (-11), 2) := by decide +kernel
theorem dL_line_9 : decode cL_line 9 = .ok (.ireturn, 1) := by decide +kernel
theorem dL_tinLine_0 : decode cL_tinLine 0 = .ok (.aload_n 0, 1) := by decide +kernel
theorem dL_tinLine_1 : decode cL_tinLine 1 = .ok (.iload_n 1, 1) := by decide +kernel
theorem dL_tinLine_2 : decode cL_tinLine 2 = .ok (.invokevirtual 86, 3) := by decide +kernel
theorem dL_tinLine_5 : decode cL_tinLine 5 = .ok (.ireturn, 1) := by decide +kernel
theorem dL_tinLine_6 : decode cL_tinLine 6 = .ok (.astore_n 2, 1) := by decide +kernel
theorem dL_tinLine_7 : decode cL_tinLine 7 = .ok (.bipush (-11), 2) := by decide +kernel
theorem dL_tinLine_9 : decode cL_tinLine 9 = .ok (.ireturn, 1) := by decide +kernel
theorem dL_character_0 : decode cL_character 0 = .ok (.aload_n 0, 1) := by decide +kernel
theorem dL_character_1 : decode cL_character 1 = .ok (.iload_n 1, 1) := by decide +kernel
theorem dL_character_2 : decode cL_character 2 = .ok (.invokevirtual 89, 3) := by decide +kernel
theorem dL_character_5 : decode cL_character 5 = .ok (.ireturn, 1) := by decide +kernel
theorem dL_character_6 : decode cL_character 6 = .ok (.astore_n 2, 1) := by decide +kernel
theorem dL_character_7 : decode cL_character 7 = .ok (.bipush (-11), 2) := by decide +kernel
theorem dL_character_9 : decode cL_character 9 = .ok (.ireturn, 1) := by decide +kernel
theorem dL_append_0 : decode cL_append 0 = .ok (.aload_n 0, 1) := by decide +kernel
theorem dL_append_1 : decode cL_append 1 = .ok (.iload_n 1, 1) := by decide +kernel
theorem dL_append_2 : decode cL_append 2 = .ok (.invokevirtual 93, 3) := by decide +kernel
theorem dL_append_5 : decode cL_append 5 = .ok (.ireturn, 1) := by decide +kernel
theorem dL_append_6 : decode cL_append 6 = .ok (.astore_n 2, 1) := by decide +kernel
theorem dL_append_7 : decode cL_append 7 = .ok (.bipush (-14), 2) := by decide +kernel
theorem dL_append_9 : decode cL_append 9 = .ok (.ireturn, 1) := by decide +kernel
theorem dL_runs_0 : decode cL_runs 0 = .ok (.aload_n 0, 1) := by decide +kernel
theorem dL_runs_1 : decode cL_runs 1 = .ok (.invokevirtual 99, 3) := by decide +kernel
theorem dL_runs_4 : decode cL_runs 4 = .ok (.ireturn, 1) := by decide +kernel
theorem dL_runs_5 : decode cL_runs 5 = .ok (.astore_n 1, 1) := by decide +kernel
theorem dL_runs_6 : decode cL_runs 6 = .ok (.iconst (-1), 1) := by decide +kernel
theorem dL_runs_7 : decode cL_runs 7 = .ok (.ireturn, 1) := by decide +kernel
theorem dL_runs_8 : decode cL_runs 8 = .ok (.astore_n 1, 1) := by decide +kernel
theorem dL_runs_9 : decode cL_runs 9 = .ok (.bipush (-2), 2) := by decide +kernel
theorem dL_runs_11 : decode cL_runs 11 = .ok (.ireturn, 1) := by decide +kernel
theorem dL_refusal_0 : decode cL_refusal 0 = .ok (.aload_n 0, 1) := by decide +kernel
theorem dL_refusal_1 : decode cL_refusal 1 = .ok (.iload_n 1, 1) := by decide +kernel
theorem dL_refusal_2 : decode cL_refusal 2 = .ok (.invokevirtual 102, 3) := by decide +kernel
theorem dL_refusal_5 : decode cL_refusal 5 = .ok (.ireturn, 1) := by decide +kernel
theorem dL_refusal_6 : decode cL_refusal 6 = .ok (.astore_n 2, 1) := by decide +kernel
theorem dL_refusal_7 : decode cL_refusal 7 = .ok (.bipush (-101), 2) := by decide +kernel
theorem dL_refusal_9 : decode cL_refusal 9 = .ok (.ireturn, 1) := by decide +kernel
theorem dL_undo_0 : decode cL_undo 0 = .ok (.aload_n 0, 1) := by decide +kernel
theorem dL_undo_1 : decode cL_undo 1 = .ok (.invokevirtual 106, 3) := by decide +kernel
theorem dL_undo_4 : decode cL_undo 4 = .ok (.ireturn, 1) := by decide +kernel
theorem dL_undo_5 : decode cL_undo 5 = .ok (.astore_n 1, 1) := by decide +kernel
theorem dL_undo_6 : decode cL_undo 6 = .ok (.iconst (-1), 1) := by decide +kernel
theorem dL_undo_7 : decode cL_undo 7 = .ok (.ireturn, 1) := by decide +kernel
theorem dL_run_0 : decode cL_run 0 = .ok (.iconst 0, 1) := by decide +kernel
theorem dL_run_1 : decode cL_run 1 = .ok (.istore_n 2, 1) := by decide +kernel
theorem dL_run_2 : decode cL_run 2 = .ok (.iload_n 2, 1) := by decide +kernel
theorem dL_run_3 : decode cL_run 3 = .ok (.aload_n 1, 1) := by decide +kernel
theorem dL_run_4 : decode cL_run 4 = .ok (.invokevirtual 109, 3) := by decide +kernel
theorem dL_run_7 : decode cL_run 7 = .ok (.if_icmp .ge 27, 3) := by decide +kernel
theorem dL_run_10 : decode cL_run 10 = .ok (.aload_n 0, 1) := by decide +kernel
theorem dL_run_11 : decode cL_run 11 = .ok (.aload_n 1, 1) := by decide +kernel
theorem dL_run_12 : decode cL_run 12 = .ok (.iload_n 2, 1) := by decide +kernel
theorem dL_run_13 : decode cL_run 13 = .ok (.invokevirtual 114, 3) := by decide +kernel
theorem dL_run_16 : decode cL_run 16 = .ok (.invokestatic 117, 3) := by decide +kernel
theorem dL_run_19 : decode cL_run 19 = .ok (.iload_n 2, 1) := by decide +kernel
theorem dL_run_20 : decode cL_run 20 = .ok (.iconst 1, 1) := by decide +kernel
theorem dL_run_21 : decode cL_run 21 = .ok (.iadd, 1) := by decide +kernel
theorem dL_run_22 : decode cL_run 22 = .ok (.if_icmp .eq 6, 3) := by decide +kernel
theorem dL_run_25 : decode cL_run 25 = .ok (.bipush (-9), 2) := by decide +kernel
theorem dL_run_27 : decode cL_run 27 = .ok (.ireturn, 1) := by decide +kernel
theorem dL_run_28 : decode cL_run 28 = .ok (.iinc 2 1, 3) := by decide +kernel
theorem dL_run_31 : decode cL_run 31 = .ok (.goto (-29), 3) := by decide +kernel
theorem dL_run_34 : decode cL_run 34 = .ok (.aload_n 0, 1) := by decide +kernel
theorem dL_run_35 : decode cL_run 35 = .ok (.invokestatic 122, 3) := by decide +kernel
theorem dL_run_38 : decode cL_run 38 = .ok (.ireturn, 1) := by decide +kernel
theorem dL_drawn_0 : decode cL_drawn 0 = .ok (.new 9, 3) := by decide +kernel
theorem dL_drawn_3 : decode cL_drawn 3 = .ok (.dup, 1) := by decide +kernel
theorem dL_drawn_4 : decode cL_drawn 4 = .ok (.invokespecial 126, 3) := by decide +kernel
theorem dL_drawn_7 : decode cL_drawn 7 = .ok (.astore_n 1, 1) := by decide +kernel
theorem dL_drawn_8 : decode cL_drawn 8 = .ok (.aload_n 0, 1) := by decide +kernel
theorem dL_drawn_9 : decode cL_drawn 9 = .ok (.iconst 0, 1) := by decide +kernel
theorem dL_drawn_10 : decode cL_drawn 10 = .ok (.invokestatic 127, 3) := by decide +kernel
theorem dL_drawn_13 : decode cL_drawn 13 = .ok (.iconst 1, 1) := by decide +kernel
theorem dL_drawn_14 : decode cL_drawn 14 = .ok (.iushr, 1) := by decide +kernel
theorem dL_drawn_15 : decode cL_drawn 15 = .ok (.istore_n 2, 1) := by decide +kernel
theorem dL_drawn_16 : decode cL_drawn 16 = .ok (.iconst 2, 1) := by decide +kernel
theorem dL_drawn_17 : decode cL_drawn 17 = .ok (.iload_n 2, 1) := by decide +kernel
theorem dL_drawn_18 : decode cL_drawn 18 = .ok (.iconst 5, 1) := by decide +kernel
theorem dL_drawn_19 : decode cL_drawn 19 = .ok (.irem, 1) := by decide +kernel
theorem dL_drawn_20 : decode cL_drawn 20 = .ok (.iadd, 1) := by decide +kernel
theorem dL_drawn_21 : decode cL_drawn 21 = .ok (.istore_n 3, 1) := by decide +kernel
theorem dL_drawn_22 : decode cL_drawn 22 = .ok (.iconst 0, 1) := by decide +kernel
theorem dL_drawn_23 : decode cL_drawn 23 = .ok (.istore 4, 2) := by decide +kernel
theorem dL_drawn_25 : decode cL_drawn 25 = .ok (.iload 4, 2) := by decide +kernel
theorem dL_drawn_27 : decode cL_drawn 27 = .ok (.iload_n 3, 1) := by decide +kernel
theorem dL_drawn_28 : decode cL_drawn 28 = .ok (.if_icmp .ge 33, 3) := by decide +kernel
theorem dL_drawn_31 : decode cL_drawn 31 = .ok (.aload_n 1, 1) := by decide +kernel
theorem dL_drawn_32 : decode cL_drawn 32 = .ok (.iconst 2, 1) := by decide +kernel
theorem dL_drawn_33 : decode cL_drawn 33 = .ok (.iload_n 2, 1) := by decide +kernel
theorem dL_drawn_34 : decode cL_drawn 34 = .ok (.iconst 3, 1) := by decide +kernel
theorem dL_drawn_35 : decode cL_drawn 35 = .ok (.iconst 3, 1) := by decide +kernel
theorem dL_drawn_36 : decode cL_drawn 36 = .ok (.iload 4, 2) := by decide +kernel
theorem dL_drawn_38 : decode cL_drawn 38 = .ok (.imul, 1) := by decide +kernel
theorem dL_drawn_39 : decode cL_drawn 39 = .ok (.iadd, 1) := by decide +kernel
theorem dL_drawn_40 : decode cL_drawn 40 = .ok (.iushr, 1) := by decide +kernel
theorem dL_drawn_41 : decode cL_drawn 41 = .ok (.bipush 7, 2) := by decide +kernel
theorem dL_drawn_43 : decode cL_drawn 43 = .ok (.irem, 1) := by decide +kernel
theorem dL_drawn_44 : decode cL_drawn 44 = .ok (.iadd, 1) := by decide +kernel
theorem dL_drawn_45 : decode cL_drawn 45 = .ok (.invokestatic 131, 3) := by decide +kernel
theorem dL_drawn_48 : decode cL_drawn 48 = .ok (.iload 4, 2) := by decide +kernel
theorem dL_drawn_50 : decode cL_drawn 50 = .ok (.if_icmp .eq 5, 3) := by decide +kernel
theorem dL_drawn_53 : decode cL_drawn 53 = .ok (.aconst_null, 1) := by decide +kernel
theorem dL_drawn_54 : decode cL_drawn 54 = .ok (.areturn, 1) := by decide +kernel
theorem dL_drawn_55 : decode cL_drawn 55 = .ok (.iinc 4 1, 3) := by decide +kernel
theorem dL_drawn_58 : decode cL_drawn 58 = .ok (.goto (-33), 3) := by decide +kernel
theorem dL_drawn_61 : decode cL_drawn 61 = .ok (.iconst 0, 1) := by decide +kernel
theorem dL_drawn_62 : decode cL_drawn 62 = .ok (.istore 4, 2) := by decide +kernel
theorem dL_drawn_64 : decode cL_drawn 64 = .ok (.iload 4, 2) := by decide +kernel
theorem dL_drawn_66 : decode cL_drawn 66 = .ok (.iconst 4, 1) := by decide +kernel
theorem dL_drawn_67 : decode cL_drawn 67 = .ok (.if_icmp .ge 69, 3) := by decide +kernel
theorem dL_drawn_70 : decode cL_drawn 70 = .ok (.aload_n 0, 1) := by decide +kernel
theorem dL_drawn_71 : decode cL_drawn 71 = .ok (.iconst 1, 1) := by decide +kernel
theorem dL_drawn_72 : decode cL_drawn 72 = .ok (.iload 4, 2) := by decide +kernel
theorem dL_drawn_74 : decode cL_drawn 74 = .ok (.iadd, 1) := by decide +kernel
theorem dL_drawn_75 : decode cL_drawn 75 = .ok (.invokestatic 127, 3) := by decide +kernel
theorem dL_drawn_78 : decode cL_drawn 78 = .ok (.iconst 1, 1) := by decide +kernel
theorem dL_drawn_79 : decode cL_drawn 79 = .ok (.iushr, 1) := by decide +kernel
theorem dL_drawn_80 : decode cL_drawn 80 = .ok (.istore 5, 2) := by decide +kernel
theorem dL_drawn_82 : decode cL_drawn 82 = .ok (.iload 5, 2) := by decide +kernel
theorem dL_drawn_84 : decode cL_drawn 84 = .ok (.bipush 12, 2) := by decide +kernel
theorem dL_drawn_86 : decode cL_drawn 86 = .ok (.irem, 1) := by decide +kernel
theorem dL_drawn_87 : decode cL_drawn 87 = .ok (.ifCond .le 17, 3) := by decide +kernel
theorem dL_drawn_90 : decode cL_drawn 90 = .ok (.aload_n 1, 1) := by decide +kernel
theorem dL_drawn_91 : decode cL_drawn 91 = .ok (.iload 4, 2) := by decide +kernel
theorem dL_drawn_93 : decode cL_drawn 93 = .ok (.iload 5, 2) := by decide +kernel
theorem dL_drawn_95 : decode cL_drawn 95 = .ok (.bipush 12, 2) := by decide +kernel
theorem dL_drawn_97 : decode cL_drawn 97 = .ok (.irem, 1) := by decide +kernel
theorem dL_drawn_98 : decode cL_drawn 98 = .ok (.invokestatic 134, 3) := by decide +kernel
theorem dL_drawn_101 : decode cL_drawn 101 = .ok (.ifCond .ne 27, 3) := by decide +kernel
theorem dL_drawn_104 : decode cL_drawn 104 = .ok (.iload 5, 2) := by decide +kernel
theorem dL_drawn_106 : decode cL_drawn 106 = .ok (.iconst 4, 1) := by decide +kernel
theorem dL_drawn_107 : decode cL_drawn 107 = .ok (.iushr, 1) := by decide +kernel
theorem dL_drawn_108 : decode cL_drawn 108 = .ok (.iconst 4, 1) := by decide +kernel
theorem dL_drawn_109 : decode cL_drawn 109 = .ok (.irem, 1) := by decide +kernel
theorem dL_drawn_110 : decode cL_drawn 110 = .ok (.ifCond .le 20, 3) := by decide +kernel
theorem dL_drawn_113 : decode cL_drawn 113 = .ok (.aload_n 1, 1) := by decide +kernel
theorem dL_drawn_114 : decode cL_drawn 114 = .ok (.iload 4, 2) := by decide +kernel
theorem dL_drawn_116 : decode cL_drawn 116 = .ok (.iload 5, 2) := by decide +kernel
theorem dL_drawn_118 : decode cL_drawn 118 = .ok (.iconst 4, 1) := by decide +kernel
theorem dL_drawn_119 : decode cL_drawn 119 = .ok (.iushr, 1) := by decide +kernel
theorem dL_drawn_120 : decode cL_drawn 120 = .ok (.iconst 4, 1) := by decide +kernel
theorem dL_drawn_121 : decode cL_drawn 121 = .ok (.irem, 1) := by decide +kernel
theorem dL_drawn_122 : decode cL_drawn 122 = .ok (.invokestatic 137, 3) := by decide +kernel
theorem dL_drawn_125 : decode cL_drawn 125 = .ok (.ifCond .eq 5, 3) := by decide +kernel
theorem dL_drawn_128 : decode cL_drawn 128 = .ok (.aconst_null, 1) := by decide +kernel
theorem dL_drawn_129 : decode cL_drawn 129 = .ok (.areturn, 1) := by decide +kernel
theorem dL_drawn_130 : decode cL_drawn 130 = .ok (.iinc 4 1, 3) := by decide +kernel
theorem dL_drawn_133 : decode cL_drawn 133 = .ok (.goto (-69), 3) := by decide +kernel
theorem dL_drawn_136 : decode cL_drawn 136 = .ok (.iconst 0, 1) := by decide +kernel
theorem dL_drawn_137 : decode cL_drawn 137 = .ok (.istore 4, 2) := by decide +kernel
theorem dL_drawn_139 : decode cL_drawn 139 = .ok (.iload 4, 2) := by decide +kernel
theorem dL_drawn_141 : decode cL_drawn 141 = .ok (.bipush 12, 2) := by decide +kernel
theorem dL_drawn_143 : decode cL_drawn 143 = .ok (.if_icmp .ge 132, 3) := by decide +kernel
theorem dL_drawn_146 : decode cL_drawn 146 = .ok (.aload_n 0, 1) := by decide +kernel
theorem dL_drawn_147 : decode cL_drawn 147 = .ok (.iconst 5, 1) := by decide +kernel
theorem dL_drawn_148 : decode cL_drawn 148 = .ok (.iload 4, 2) := by decide +kernel
theorem dL_drawn_150 : decode cL_drawn 150 = .ok (.iadd, 1) := by decide +kernel
theorem dL_drawn_151 : decode cL_drawn 151 = .ok (.invokestatic 127, 3) := by decide +kernel
theorem dL_drawn_154 : decode cL_drawn 154 = .ok (.iconst 1, 1) := by decide +kernel
theorem dL_drawn_155 : decode cL_drawn 155 = .ok (.iushr, 1) := by decide +kernel
theorem dL_drawn_156 : decode cL_drawn 156 = .ok (.istore 5, 2) := by decide +kernel
theorem dL_drawn_158 : decode cL_drawn 158 = .ok (.iload 5, 2) := by decide +kernel
theorem dL_drawn_160 : decode cL_drawn 160 = .ok (.iconst 4, 1) := by decide +kernel
theorem dL_drawn_161 : decode cL_drawn 161 = .ok (.irem, 1) := by decide +kernel
theorem dL_drawn_162 : decode cL_drawn 162 = .ok (.ifCond .ne 16, 3) := by decide +kernel
theorem dL_drawn_165 : decode cL_drawn 165 = .ok (.aload_n 1, 1) := by decide +kernel
theorem dL_drawn_166 : decode cL_drawn 166 = .ok (.iload 5, 2) := by decide +kernel
theorem dL_drawn_168 : decode cL_drawn 168 = .ok (.iconst 2, 1) := by decide +kernel
theorem dL_drawn_169 : decode cL_drawn 169 = .ok (.iushr, 1) := by decide +kernel
theorem dL_drawn_170 : decode cL_drawn 170 = .ok (.iconst 4, 1) := by decide +kernel
theorem dL_drawn_171 : decode cL_drawn 171 = .ok (.irem, 1) := by decide +kernel
theorem dL_drawn_172 : decode cL_drawn 172 = .ok (.invokestatic 139, 3) := by decide +kernel
theorem dL_drawn_175 : decode cL_drawn 175 = .ok (.goto 50, 3) := by decide +kernel
theorem dL_drawn_178 : decode cL_drawn 178 = .ok (.aload_n 1, 1) := by decide +kernel
theorem dL_drawn_179 : decode cL_drawn 179 = .ok (.iload 5, 2) := by decide +kernel
theorem dL_drawn_181 : decode cL_drawn 181 = .ok (.iconst 2, 1) := by decide +kernel
theorem dL_drawn_182 : decode cL_drawn 182 = .ok (.iushr, 1) := by decide +kernel
theorem dL_drawn_183 : decode cL_drawn 183 = .ok (.iconst 4, 1) := by decide +kernel
theorem dL_drawn_184 : decode cL_drawn 184 = .ok (.irem, 1) := by decide +kernel
theorem dL_drawn_185 : decode cL_drawn 185 = .ok (.iload 5, 2) := by decide +kernel
theorem dL_drawn_187 : decode cL_drawn 187 = .ok (.iconst 4, 1) := by decide +kernel
theorem dL_drawn_188 : decode cL_drawn 188 = .ok (.iushr, 1) := by decide +kernel
theorem dL_drawn_189 : decode cL_drawn 189 = .ok (.bipush 10, 2) := by decide +kernel
theorem dL_drawn_191 : decode cL_drawn 191 = .ok (.irem, 1) := by decide +kernel
theorem dL_drawn_192 : decode cL_drawn 192 = .ok (.iload 5, 2) := by decide +kernel
theorem dL_drawn_194 : decode cL_drawn 194 = .ok (.bipush 7, 2) := by decide +kernel
theorem dL_drawn_196 : decode cL_drawn 196 = .ok (.irem, 1) := by decide +kernel
theorem dL_drawn_197 : decode cL_drawn 197 = .ok (.ifCond .ne 16, 3) := by decide +kernel
theorem dL_drawn_200 : decode cL_drawn 200 = .ok (.iconst 1, 1) := by decide +kernel
theorem dL_drawn_201 : decode cL_drawn 201 = .ok (.iload 5, 2) := by decide +kernel
theorem dL_drawn_203 : decode cL_drawn 203 = .ok (.bipush 8, 2) := by decide +kernel
theorem dL_drawn_205 : decode cL_drawn 205 = .ok (.iushr, 1) := by decide +kernel
theorem dL_drawn_206 : decode cL_drawn 206 = .ok (.bipush 8, 2) := by decide +kernel
theorem dL_drawn_208 : decode cL_drawn 208 = .ok (.irem, 1) := by decide +kernel
theorem dL_drawn_209 : decode cL_drawn 209 = .ok (.iadd, 1) := by decide +kernel
theorem dL_drawn_210 : decode cL_drawn 210 = .ok (.goto 12, 3) := by decide +kernel
theorem dL_drawn_213 : decode cL_drawn 213 = .ok (.iconst 1, 1) := by decide +kernel
theorem dL_drawn_214 : decode cL_drawn 214 = .ok (.iload 5, 2) := by decide +kernel
theorem dL_drawn_216 : decode cL_drawn 216 = .ok (.bipush 8, 2) := by decide +kernel
theorem dL_drawn_218 : decode cL_drawn 218 = .ok (.iushr, 1) := by decide +kernel
theorem dL_drawn_219 : decode cL_drawn 219 = .ok (.iconst 3, 1) := by decide +kernel
theorem dL_drawn_220 : decode cL_drawn 220 = .ok (.irem, 1) := by decide +kernel
theorem dL_drawn_221 : decode cL_drawn 221 = .ok (.iadd, 1) := by decide +kernel
theorem dL_drawn_222 : decode cL_drawn 222 = .ok (.invokestatic 141, 3) := by decide +kernel
theorem dL_drawn_225 : decode cL_drawn 225 = .ok (.istore 6, 2) := by decide +kernel
theorem dL_drawn_227 : decode cL_drawn 227 = .ok (.iload 6, 2) := by decide +kernel
theorem dL_drawn_229 : decode cL_drawn 229 = .ok (.bipush (-3), 2) := by decide +kernel
theorem dL_drawn_231 : decode cL_drawn 231 = .ok (.if_icmp .ne 24, 3) := by decide +kernel
theorem dL_drawn_234 : decode cL_drawn 234 = .ok (.aload_n 1, 1) := by decide +kernel
theorem dL_drawn_235 : decode cL_drawn 235 = .ok (.iconst 0, 1) := by decide +kernel
theorem dL_drawn_236 : decode cL_drawn 236 = .ok (.invokestatic 144, 3) := by decide +kernel
theorem dL_drawn_239 : decode cL_drawn 239 = .ok (.iconst 3, 1) := by decide +kernel
theorem dL_drawn_240 : decode cL_drawn 240 = .ok (.if_icmp .lt 27, 3) := by decide +kernel
theorem dL_drawn_243 : decode cL_drawn 243 = .ok (.aload_n 1, 1) := by decide +kernel
theorem dL_drawn_244 : decode cL_drawn 244 = .ok (.iconst 0, 1) := by decide +kernel
theorem dL_drawn_245 : decode cL_drawn 245 = .ok (.invokestatic 144, 3) := by decide +kernel
theorem dL_drawn_248 : decode cL_drawn 248 = .ok (.iconst 4, 1) := by decide +kernel
theorem dL_drawn_249 : decode cL_drawn 249 = .ok (.if_icmp .le 20, 3) := by decide +kernel
theorem dL_drawn_252 : decode cL_drawn 252 = .ok (.goto 15, 3) := by decide +kernel
theorem dL_drawn_255 : decode cL_drawn 255 = .ok (.iload 6, 2) := by decide +kernel
theorem dL_drawn_257 : decode cL_drawn 257 = .ok (.aload_n 1, 1) := by decide +kernel
theorem dL_drawn_258 : decode cL_drawn 258 = .ok (.iconst 3, 1) := by decide +kernel
theorem dL_drawn_259 : decode cL_drawn 259 = .ok (.invokevirtual 147, 3) := by decide +kernel
theorem dL_drawn_262 : decode cL_drawn 262 = .ok (.iconst 1, 1) := by decide +kernel
theorem dL_drawn_263 : decode cL_drawn 263 = .ok (.isub, 1) := by decide +kernel
theorem dL_drawn_264 : decode cL_drawn 264 = .ok (.if_icmp .eq 5, 3) := by decide +kernel
theorem dL_drawn_267 : decode cL_drawn 267 = .ok (.aconst_null, 1) := by decide +kernel
theorem dL_drawn_268 : decode cL_drawn 268 = .ok (.areturn, 1) := by decide +kernel
theorem dL_drawn_269 : decode cL_drawn 269 = .ok (.iinc 4 1, 3) := by decide +kernel
theorem dL_drawn_272 : decode cL_drawn 272 = .ok (.goto (-133), 3) := by decide +kernel
theorem dL_drawn_275 : decode cL_drawn 275 = .ok (.aload_n 1, 1) := by decide +kernel
theorem dL_drawn_276 : decode cL_drawn 276 = .ok (.iconst 1, 1) := by decide +kernel
theorem dL_drawn_277 : decode cL_drawn 277 = .ok (.iload_n 2, 1) := by decide +kernel
theorem dL_drawn_278 : decode cL_drawn 278 = .ok (.bipush 20, 2) := by decide +kernel
theorem dL_drawn_280 : decode cL_drawn 280 = .ok (.iushr, 1) := by decide +kernel
theorem dL_drawn_281 : decode cL_drawn 281 = .ok (.bipush 11, 2) := by decide +kernel
theorem dL_drawn_283 : decode cL_drawn 283 = .ok (.irem, 1) := by decide +kernel
theorem dL_drawn_284 : decode cL_drawn 284 = .ok (.iadd, 1) := by decide +kernel
theorem dL_drawn_285 : decode cL_drawn 285 = .ok (.invokestatic 150, 3) := by decide +kernel
theorem dL_drawn_288 : decode cL_drawn 288 = .ok (.ifCond .ge 16, 3) := by decide +kernel
theorem dL_drawn_291 : decode cL_drawn 291 = .ok (.aload_n 1, 1) := by decide +kernel
theorem dL_drawn_292 : decode cL_drawn 292 = .ok (.iconst 0, 1) := by decide +kernel
theorem dL_drawn_293 : decode cL_drawn 293 = .ok (.invokestatic 144, 3) := by decide +kernel
theorem dL_drawn_296 : decode cL_drawn 296 = .ok (.iconst 2, 1) := by decide +kernel
theorem dL_drawn_297 : decode cL_drawn 297 = .ok (.if_icmp .eq 7, 3) := by decide +kernel
theorem dL_drawn_300 : decode cL_drawn 300 = .ok (.aconst_null, 1) := by decide +kernel
theorem dL_drawn_301 : decode cL_drawn 301 = .ok (.goto 4, 3) := by decide +kernel
theorem dL_drawn_304 : decode cL_drawn 304 = .ok (.aload_n 1, 1) := by decide +kernel
theorem dL_drawn_305 : decode cL_drawn 305 = .ok (.areturn, 1) := by decide +kernel
theorem dL_sounds_0 : decode cL_sounds 0 = .ok (.aload_n 0, 1) := by decide +kernel
theorem dL_sounds_1 : decode cL_sounds 1 = .ok (.iconst 3, 1) := by decide +kernel
theorem dL_sounds_2 : decode cL_sounds 2 = .ok (.invokevirtual 147, 3) := by decide +kernel
theorem dL_sounds_5 : decode cL_sounds 5 = .ok (.istore_n 1, 1) := by decide +kernel
theorem dL_sounds_6 : decode cL_sounds 6 = .ok (.iload_n 1, 1) := by decide +kernel
theorem dL_sounds_7 : decode cL_sounds 7 = .ok (.bipush 6, 2) := by decide +kernel
theorem dL_sounds_9 : decode cL_sounds 9 = .ok (.multianewarray 152 2, 4) := by decide +kernel
theorem dL_sounds_13 : decode cL_sounds 13 = .ok (.astore_n 2, 1) := by decide +kernel
theorem dL_sounds_14 : decode cL_sounds 14 = .ok (.iconst 0, 1) := by decide +kernel
theorem dL_sounds_15 : decode cL_sounds 15 = .ok (.istore_n 3, 1) := by decide +kernel
theorem dL_sounds_16 : decode cL_sounds 16 = .ok (.iconst 0, 1) := by decide +kernel
theorem dL_sounds_17 : decode cL_sounds 17 = .ok (.istore 4, 2) := by decide +kernel
theorem dL_sounds_19 : decode cL_sounds 19 = .ok (.iload 4, 2) := by decide +kernel
theorem dL_sounds_21 : decode cL_sounds 21 = .ok (.iload_n 1, 1) := by decide +kernel
theorem dL_sounds_22 : decode cL_sounds 22 = .ok (.if_icmp .ge 184, 3) := by decide +kernel
theorem dL_sounds_25 : decode cL_sounds 25 = .ok (.aload_n 0, 1) := by decide +kernel
theorem dL_sounds_26 : decode cL_sounds 26 = .ok (.iload 4, 2) := by decide +kernel
theorem dL_sounds_28 : decode cL_sounds 28 = .ok (.iconst 0, 1) := by decide +kernel
theorem dL_sounds_29 : decode cL_sounds 29 = .ok (.invokestatic 154, 3) := by decide +kernel
theorem dL_sounds_32 : decode cL_sounds 32 = .ok (.istore 5, 2) := by decide +kernel
theorem dL_sounds_34 : decode cL_sounds 34 = .ok (.aload_n 0, 1) := by decide +kernel
theorem dL_sounds_35 : decode cL_sounds 35 = .ok (.iload 4, 2) := by decide +kernel
theorem dL_sounds_37 : decode cL_sounds 37 = .ok (.iconst 1, 1) := by decide +kernel
theorem dL_sounds_38 : decode cL_sounds 38 = .ok (.invokestatic 154, 3) := by decide +kernel
theorem dL_sounds_41 : decode cL_sounds 41 = .ok (.istore 6, 2) := by decide +kernel
theorem dL_sounds_43 : decode cL_sounds 43 = .ok (.aload_n 0, 1) := by decide +kernel
theorem dL_sounds_44 : decode cL_sounds 44 = .ok (.iload 4, 2) := by decide +kernel
theorem dL_sounds_46 : decode cL_sounds 46 = .ok (.iconst 2, 1) := by decide +kernel
theorem dL_sounds_47 : decode cL_sounds 47 = .ok (.invokestatic 154, 3) := by decide +kernel
theorem dL_sounds_50 : decode cL_sounds 50 = .ok (.istore 7, 2) := by decide +kernel
theorem dL_sounds_52 : decode cL_sounds 52 = .ok (.aload_n 0, 1) := by decide +kernel
theorem dL_sounds_53 : decode cL_sounds 53 = .ok (.iload 5, 2) := by decide +kernel
theorem dL_sounds_55 : decode cL_sounds 55 = .ok (.iconst 0, 1) := by decide +kernel
theorem dL_sounds_56 : decode cL_sounds 56 = .ok (.invokestatic 157, 3) := by decide +kernel
theorem dL_sounds_59 : decode cL_sounds 59 = .ok (.iload 6, 2) := by decide +kernel
theorem dL_sounds_61 : decode cL_sounds 61 = .ok (.iadd, 1) := by decide +kernel
theorem dL_sounds_62 : decode cL_sounds 62 = .ok (.istore 8, 2) := by decide +kernel
theorem dL_sounds_64 : decode cL_sounds 64 = .ok (.iconst 0, 1) := by decide +kernel
theorem dL_sounds_65 : decode cL_sounds 65 = .ok (.istore 9, 2) := by decide +kernel
theorem dL_sounds_67 : decode cL_sounds 67 = .ok (.iconst 0, 1) := by decide +kernel
theorem dL_sounds_68 : decode cL_sounds 68 = .ok (.istore 10, 2) := by decide +kernel
theorem dL_sounds_70 : decode cL_sounds 70 = .ok (.iconst 0, 1) := by decide +kernel
theorem dL_sounds_71 : decode cL_sounds 71 = .ok (.istore 11, 2) := by decide +kernel
theorem dL_sounds_73 : decode cL_sounds 73 = .ok (.iload 11, 2) := by decide +kernel
theorem dL_sounds_75 : decode cL_sounds 75 = .ok (.aload_n 0, 1) := by decide +kernel
theorem dL_sounds_76 : decode cL_sounds 76 = .ok (.iconst 0, 1) := by decide +kernel
theorem dL_sounds_77 : decode cL_sounds 77 = .ok (.invokevirtual 147, 3) := by decide +kernel
theorem dL_sounds_80 : decode cL_sounds 80 = .ok (.if_icmp .ge 50, 3) := by decide +kernel
theorem dL_sounds_83 : decode cL_sounds 83 = .ok (.iload 10, 2) := by decide +kernel
theorem dL_sounds_85 : decode cL_sounds 85 = .ok (.aload_n 0, 1) := by decide +kernel
theorem dL_sounds_86 : decode cL_sounds 86 = .ok (.iload 11, 2) := by decide +kernel
theorem dL_sounds_88 : decode cL_sounds 88 = .ok (.iconst 0, 1) := by decide +kernel
theorem dL_sounds_89 : decode cL_sounds 89 = .ok (.invokestatic 159, 3) := by decide +kernel
theorem dL_sounds_92 : decode cL_sounds 92 = .ok (.iadd, 1) := by decide +kernel
theorem dL_sounds_93 : decode cL_sounds 93 = .ok (.istore 12, 2) := by decide +kernel
theorem dL_sounds_95 : decode cL_sounds 95 = .ok (.iload 9, 2) := by decide +kernel
theorem dL_sounds_97 : decode cL_sounds 97 = .ok (.iload_n 3, 1) := by decide +kernel
theorem dL_sounds_98 : decode cL_sounds 98 = .ok (.iload 12, 2) := by decide +kernel
theorem dL_sounds_100 : decode cL_sounds 100 = .ok (.if_icmp .ge 16, 3) := by decide +kernel
theorem dL_sounds_103 : decode cL_sounds 103 = .ok (.iload_n 3, 1) := by decide +kernel
theorem dL_sounds_104 : decode cL_sounds 104 = .ok (.iload 7, 2) := by decide +kernel
theorem dL_sounds_106 : decode cL_sounds 106 = .ok (.iadd, 1) := by decide +kernel
theorem dL_sounds_107 : decode cL_sounds 107 = .ok (.iload 10, 2) := by decide +kernel
theorem dL_sounds_109 : decode cL_sounds 109 = .ok (.if_icmp .le 7, 3) := by decide +kernel
theorem dL_sounds_112 : decode cL_sounds 112 = .ok (.iconst 1, 1) := by decide +kernel
theorem dL_sounds_113 : decode cL_sounds 113 = .ok (.goto 4, 3) := by decide +kernel
theorem dL_sounds_116 : decode cL_sounds 116 = .ok (.iconst 0, 1) := by decide +kernel
theorem dL_sounds_117 : decode cL_sounds 117 = .ok (.iadd, 1) := by decide +kernel
theorem dL_sounds_118 : decode cL_sounds 118 = .ok (.istore 9, 2) := by decide +kernel
theorem dL_sounds_120 : decode cL_sounds 120 = .ok (.iload 12, 2) := by decide +kernel
theorem dL_sounds_122 : decode cL_sounds 122 = .ok (.istore 10, 2) := by decide +kernel
theorem dL_sounds_124 : decode cL_sounds 124 = .ok (.iinc 11 1, 3) := by decide +kernel
theorem dL_sounds_127 : decode cL_sounds 127 = .ok (.goto (-54), 3) := by decide +kernel
theorem dL_sounds_130 : decode cL_sounds 130 = .ok (.bipush 6, 2) := by decide +kernel
theorem dL_sounds_132 : decode cL_sounds 132 = .ok (.newarray .int, 2) := by decide +kernel
theorem dL_sounds_134 : decode cL_sounds 134 = .ok (.dup, 1) := by decide +kernel
theorem dL_sounds_135 : decode cL_sounds 135 = .ok (.iconst 0, 1) := by decide +kernel
theorem dL_sounds_136 : decode cL_sounds 136 = .ok (.iload 5, 2) := by decide +kernel
theorem dL_sounds_138 : decode cL_sounds 138 = .ok (.iastore, 1) := by decide +kernel
theorem dL_sounds_139 : decode cL_sounds 139 = .ok (.dup, 1) := by decide +kernel
theorem dL_sounds_140 : decode cL_sounds 140 = .ok (.iconst 1, 1) := by decide +kernel
theorem dL_sounds_141 : decode cL_sounds 141 = .ok (.iload 6, 2) := by decide +kernel
theorem dL_sounds_143 : decode cL_sounds 143 = .ok (.iastore, 1) := by decide +kernel
theorem dL_sounds_144 : decode cL_sounds 144 = .ok (.dup, 1) := by decide +kernel
theorem dL_sounds_145 : decode cL_sounds 145 = .ok (.iconst 2, 1) := by decide +kernel
theorem dL_sounds_146 : decode cL_sounds 146 = .ok (.iload 7, 2) := by decide +kernel
theorem dL_sounds_148 : decode cL_sounds 148 = .ok (.iastore, 1) := by decide +kernel
theorem dL_sounds_149 : decode cL_sounds 149 = .ok (.dup, 1) := by decide +kernel
theorem dL_sounds_150 : decode cL_sounds 150 = .ok (.iconst 3, 1) := by decide +kernel
theorem dL_sounds_151 : decode cL_sounds 151 = .ok (.iload 6, 2) := by decide +kernel
theorem dL_sounds_153 : decode cL_sounds 153 = .ok (.ifCond .ge 7, 3) := by decide +kernel
theorem dL_sounds_156 : decode cL_sounds 156 = .ok (.iconst (-1), 1) := by decide +kernel
theorem dL_sounds_157 : decode cL_sounds 157 = .ok (.goto 20, 3) := by decide +kernel
theorem dL_sounds_160 : decode cL_sounds 160 = .ok (.iload 8, 2) := by decide +kernel
theorem dL_sounds_162 : decode cL_sounds 162 = .ok (.bipush 11, 2) := by decide +kernel
theorem dL_sounds_164 : decode cL_sounds 164 = .ok (.if_icmp .le 11, 3) := by decide +kernel
theorem dL_sounds_167 : decode cL_sounds 167 = .ok (.iload 8, 2) := by decide +kernel
theorem dL_sounds_169 : decode cL_sounds 169 = .ok (.bipush 12, 2) := by decide +kernel
theorem dL_sounds_171 : decode cL_sounds 171 = .ok (.isub, 1) := by decide +kernel
theorem dL_sounds_172 : decode cL_sounds 172 = .ok (.goto 5, 3) := by decide +kernel
theorem dL_sounds_175 : decode cL_sounds 175 = .ok (.iload 8, 2) := by decide +kernel
theorem dL_sounds_177 : decode cL_sounds 177 = .ok (.iastore, 1) := by decide +kernel
theorem dL_sounds_178 : decode cL_sounds 178 = .ok (.dup, 1) := by decide +kernel
theorem dL_sounds_179 : decode cL_sounds 179 = .ok (.iconst 4, 1) := by decide +kernel
theorem dL_sounds_180 : decode cL_sounds 180 = .ok (.iload_n 3, 1) := by decide +kernel
theorem dL_sounds_181 : decode cL_sounds 181 = .ok (.iastore, 1) := by decide +kernel
theorem dL_sounds_182 : decode cL_sounds 182 = .ok (.dup, 1) := by decide +kernel
theorem dL_sounds_183 : decode cL_sounds 183 = .ok (.iconst 5, 1) := by decide +kernel
theorem dL_sounds_184 : decode cL_sounds 184 = .ok (.iload 9, 2) := by decide +kernel
theorem dL_sounds_186 : decode cL_sounds 186 = .ok (.iastore, 1) := by decide +kernel
theorem dL_sounds_187 : decode cL_sounds 187 = .ok (.astore 11, 2) := by decide +kernel
theorem dL_sounds_189 : decode cL_sounds 189 = .ok (.aload_n 2, 1) := by decide +kernel
theorem dL_sounds_190 : decode cL_sounds 190 = .ok (.iload 4, 2) := by decide +kernel
theorem dL_sounds_192 : decode cL_sounds 192 = .ok (.aload 11, 2) := by decide +kernel
theorem dL_sounds_194 : decode cL_sounds 194 = .ok (.aastore, 1) := by decide +kernel
theorem dL_sounds_195 : decode cL_sounds 195 = .ok (.iload_n 3, 1) := by decide +kernel
theorem dL_sounds_196 : decode cL_sounds 196 = .ok (.iload 7, 2) := by decide +kernel
theorem dL_sounds_198 : decode cL_sounds 198 = .ok (.iadd, 1) := by decide +kernel
theorem dL_sounds_199 : decode cL_sounds 199 = .ok (.istore_n 3, 1) := by decide +kernel
theorem dL_sounds_200 : decode cL_sounds 200 = .ok (.iinc 4 1, 3) := by decide +kernel
theorem dL_sounds_203 : decode cL_sounds 203 = .ok (.goto (-184), 3) := by decide +kernel
theorem dL_sounds_206 : decode cL_sounds 206 = .ok (.aload_n 2, 1) := by decide +kernel
theorem dL_sounds_207 : decode cL_sounds 207 = .ok (.areturn, 1) := by decide +kernel
theorem dL_ahead_0 : decode cL_ahead 0 = .ok (.iconst 2, 1) := by decide +kernel
theorem dL_ahead_1 : decode cL_ahead 1 = .ok (.newarray .int, 2) := by decide +kernel
theorem dL_ahead_3 : decode cL_ahead 3 = .ok (.dup, 1) := by decide +kernel
theorem dL_ahead_4 : decode cL_ahead 4 = .ok (.iconst 0, 1) := by decide +kernel
theorem dL_ahead_5 : decode cL_ahead 5 = .ok (.iconst (-1), 1) := by decide +kernel
theorem dL_ahead_6 : decode cL_ahead 6 = .ok (.iastore, 1) := by decide +kernel
theorem dL_ahead_7 : decode cL_ahead 7 = .ok (.dup, 1) := by decide +kernel
theorem dL_ahead_8 : decode cL_ahead 8 = .ok (.iconst 1, 1) := by decide +kernel
theorem dL_ahead_9 : decode cL_ahead 9 = .ok (.iconst (-1), 1) := by decide +kernel
theorem dL_ahead_10 : decode cL_ahead 10 = .ok (.iastore, 1) := by decide +kernel
theorem dL_ahead_11 : decode cL_ahead 11 = .ok (.astore_n 2, 1) := by decide +kernel
theorem dL_ahead_12 : decode cL_ahead 12 = .ok (.iconst 0, 1) := by decide +kernel
theorem dL_ahead_13 : decode cL_ahead 13 = .ok (.istore_n 3, 1) := by decide +kernel
theorem dL_ahead_14 : decode cL_ahead 14 = .ok (.iload_n 1, 1) := by decide +kernel
theorem dL_ahead_15 : decode cL_ahead 15 = .ok (.iconst 1, 1) := by decide +kernel
theorem dL_ahead_16 : decode cL_ahead 16 = .ok (.isub, 1) := by decide +kernel
theorem dL_ahead_17 : decode cL_ahead 17 = .ok (.istore 4, 2) := by decide +kernel
theorem dL_ahead_19 : decode cL_ahead 19 = .ok (.iload 4, 2) := by decide +kernel
theorem dL_ahead_21 : decode cL_ahead 21 = .ok (.ifCond .lt 35, 3) := by decide +kernel
theorem dL_ahead_24 : decode cL_ahead 24 = .ok (.iload_n 3, 1) := by decide +kernel
theorem dL_ahead_25 : decode cL_ahead 25 = .ok (.iconst 2, 1) := by decide +kernel
theorem dL_ahead_26 : decode cL_ahead 26 = .ok (.if_icmp .ge 30, 3) := by decide +kernel
theorem dL_ahead_29 : decode cL_ahead 29 = .ok (.aload_n 0, 1) := by decide +kernel
theorem dL_ahead_30 : decode cL_ahead 30 = .ok (.iload 4, 2) := by decide +kernel
theorem dL_ahead_32 : decode cL_ahead 32 = .ok (.aaload, 1) := by decide +kernel
theorem dL_ahead_33 : decode cL_ahead 33 = .ok (.iconst 3, 1) := by decide +kernel
theorem dL_ahead_34 : decode cL_ahead 34 = .ok (.iaload, 1) := by decide +kernel
theorem dL_ahead_35 : decode cL_ahead 35 = .ok (.ifCond .lt 15, 3) := by decide +kernel
theorem dL_ahead_38 : decode cL_ahead 38 = .ok (.aload_n 2, 1) := by decide +kernel
theorem dL_ahead_39 : decode cL_ahead 39 = .ok (.iload_n 3, 1) := by decide +kernel
theorem dL_ahead_40 : decode cL_ahead 40 = .ok (.aload_n 0, 1) := by decide +kernel
theorem dL_ahead_41 : decode cL_ahead 41 = .ok (.iload 4, 2) := by decide +kernel
theorem dL_ahead_43 : decode cL_ahead 43 = .ok (.aaload, 1) := by decide +kernel
theorem dL_ahead_44 : decode cL_ahead 44 = .ok (.iconst 3, 1) := by decide +kernel
theorem dL_ahead_45 : decode cL_ahead 45 = .ok (.iaload, 1) := by decide +kernel
theorem dL_ahead_46 : decode cL_ahead 46 = .ok (.iastore, 1) := by decide +kernel
theorem dL_ahead_47 : decode cL_ahead 47 = .ok (.iinc 3 1, 3) := by decide +kernel
theorem dL_ahead_50 : decode cL_ahead 50 = .ok (.iinc 4 (-1), 3) := by decide +kernel
theorem dL_ahead_53 : decode cL_ahead 53 = .ok (.goto (-34), 3) := by decide +kernel
theorem dL_ahead_56 : decode cL_ahead 56 = .ok (.aload_n 2, 1) := by decide +kernel
theorem dL_ahead_57 : decode cL_ahead 57 = .ok (.areturn, 1) := by decide +kernel
theorem dL_isFault_0 : decode cL_isFault 0 = .ok (.iload_n 2, 1) := by decide +kernel
theorem dL_isFault_1 : decode cL_isFault 1 = .ok (.iconst 3, 1) := by decide +kernel
theorem dL_isFault_2 : decode cL_isFault 2 = .ok (.if_icmp .ne 112, 3) := by decide +kernel
theorem dL_isFault_5 : decode cL_isFault 5 = .ok (.iconst 0, 1) := by decide +kernel
theorem dL_isFault_6 : decode cL_isFault 6 = .ok (.istore 4, 2) := by decide +kernel
theorem dL_isFault_8 : decode cL_isFault 8 = .ok (.iconst 0, 1) := by decide +kernel
theorem dL_isFault_9 : decode cL_isFault 9 = .ok (.istore 5, 2) := by decide +kernel
theorem dL_isFault_11 : decode cL_isFault 11 = .ok (.iload 5, 2) := by decide +kernel
theorem dL_isFault_13 : decode cL_isFault 13 = .ok (.iload_n 3, 1) := by decide +kernel
theorem dL_isFault_14 : decode cL_isFault 14 = .ok (.if_icmp .ge 21, 3) := by decide +kernel
theorem dL_isFault_17 : decode cL_isFault 17 = .ok (.iload 4, 2) := by decide +kernel
theorem dL_isFault_19 : decode cL_isFault 19 = .ok (.aload_n 0, 1) := by decide +kernel
theorem dL_isFault_20 : decode cL_isFault 20 = .ok (.iload 5, 2) := by decide +kernel
theorem dL_isFault_22 : decode cL_isFault 22 = .ok (.iconst 0, 1) := by decide +kernel
theorem dL_isFault_23 : decode cL_isFault 23 = .ok (.invokestatic 159, 3) := by decide +kernel
theorem dL_isFault_26 : decode cL_isFault 26 = .ok (.iadd, 1) := by decide +kernel
theorem dL_isFault_27 : decode cL_isFault 27 = .ok (.istore 4, 2) := by decide +kernel
theorem dL_isFault_29 : decode cL_isFault 29 = .ok (.iinc 5 1, 3) := by decide +kernel
theorem dL_isFault_32 : decode cL_isFault 32 = .ok (.goto (-21), 3) := by decide +kernel
theorem dL_isFault_35 : decode cL_isFault 35 = .ok (.iconst 0, 1) := by decide +kernel
theorem dL_isFault_36 : decode cL_isFault 36 = .ok (.istore 5, 2) := by decide +kernel
theorem dL_isFault_38 : decode cL_isFault 38 = .ok (.aload_n 1, 1) := by decide +kernel
theorem dL_isFault_39 : decode cL_isFault 39 = .ok (.astore 6, 2) := by decide +kernel
theorem dL_isFault_41 : decode cL_isFault 41 = .ok (.aload 6, 2) := by decide +kernel
theorem dL_isFault_43 : decode cL_isFault 43 = .ok (.arraylength, 1) := by decide +kernel
theorem dL_isFault_44 : decode cL_isFault 44 = .ok (.istore 7, 2) := by decide +kernel
theorem dL_isFault_46 : decode cL_isFault 46 = .ok (.iconst 0, 1) := by decide +kernel
theorem dL_isFault_47 : decode cL_isFault 47 = .ok (.istore 8, 2) := by decide +kernel
theorem dL_isFault_49 : decode cL_isFault 49 = .ok (.iload 8, 2) := by decide +kernel
theorem dL_isFault_51 : decode cL_isFault 51 = .ok (.iload 7, 2) := by decide +kernel
theorem dL_isFault_53 : decode cL_isFault 53 = .ok (.if_icmp .ge 58, 3) := by decide +kernel
theorem dL_isFault_56 : decode cL_isFault 56 = .ok (.aload 6, 2) := by decide +kernel
theorem dL_isFault_58 : decode cL_isFault 58 = .ok (.iload 8, 2) := by decide +kernel
theorem dL_isFault_60 : decode cL_isFault 60 = .ok (.aaload, 1) := by decide +kernel
theorem dL_isFault_61 : decode cL_isFault 61 = .ok (.astore 9, 2) := by decide +kernel
theorem dL_isFault_63 : decode cL_isFault 63 = .ok (.iload 5, 2) := by decide +kernel
theorem dL_isFault_65 : decode cL_isFault 65 = .ok (.ifCond .ne 33, 3) := by decide +kernel
theorem dL_isFault_68 : decode cL_isFault 68 = .ok (.aload 9, 2) := by decide +kernel
theorem dL_isFault_70 : decode cL_isFault 70 = .ok (.iconst 3, 1) := by decide +kernel
theorem dL_isFault_71 : decode cL_isFault 71 = .ok (.iaload, 1) := by decide +kernel
theorem dL_isFault_72 : decode cL_isFault 72 = .ok (.ifCond .ge 30, 3) := by decide +kernel
theorem dL_isFault_75 : decode cL_isFault 75 = .ok (.aload 9, 2) := by decide +kernel
theorem dL_isFault_77 : decode cL_isFault 77 = .ok (.iconst 4, 1) := by decide +kernel
theorem dL_isFault_78 : decode cL_isFault 78 = .ok (.iaload, 1) := by decide +kernel
theorem dL_isFault_79 : decode cL_isFault 79 = .ok (.iload 4, 2) := by decide +kernel
theorem dL_isFault_81 : decode cL_isFault 81 = .ok (.if_icmp .gt 21, 3) := by decide +kernel
theorem dL_isFault_84 : decode cL_isFault 84 = .ok (.aload 9, 2) := by decide +kernel
theorem dL_isFault_86 : decode cL_isFault 86 = .ok (.iconst 4, 1) := by decide +kernel
theorem dL_isFault_87 : decode cL_isFault 87 = .ok (.iaload, 1) := by decide +kernel
theorem dL_isFault_88 : decode cL_isFault 88 = .ok (.aload 9, 2) := by decide +kernel
theorem dL_isFault_90 : decode cL_isFault 90 = .ok (.iconst 2, 1) := by decide +kernel
theorem dL_isFault_91 : decode cL_isFault 91 = .ok (.iaload, 1) := by decide +kernel
theorem dL_isFault_92 : decode cL_isFault 92 = .ok (.iadd, 1) := by decide +kernel
theorem dL_isFault_93 : decode cL_isFault 93 = .ok (.iload 4, 2) := by decide +kernel
theorem dL_isFault_95 : decode cL_isFault 95 = .ok (.if_icmp .le 7, 3) := by decide +kernel
theorem dL_isFault_98 : decode cL_isFault 98 = .ok (.iconst 1, 1) := by decide +kernel
theorem dL_isFault_99 : decode cL_isFault 99 = .ok (.goto 4, 3) := by decide +kernel
theorem dL_isFault_102 : decode cL_isFault 102 = .ok (.iconst 0, 1) := by decide +kernel
theorem dL_isFault_103 : decode cL_isFault 103 = .ok (.istore 5, 2) := by decide +kernel
theorem dL_isFault_105 : decode cL_isFault 105 = .ok (.iinc 8 1, 3) := by decide +kernel
theorem dL_isFault_108 : decode cL_isFault 108 = .ok (.goto (-59), 3) := by decide +kernel
theorem dL_isFault_111 : decode cL_isFault 111 = .ok (.iload 5, 2) := by decide +kernel
theorem dL_isFault_113 : decode cL_isFault 113 = .ok (.ireturn, 1) := by decide +kernel
theorem dL_isFault_114 : decode cL_isFault 114 = .ok (.aload_n 1, 1) := by decide +kernel
theorem dL_isFault_115 : decode cL_isFault 115 = .ok (.iload_n 3, 1) := by decide +kernel
theorem dL_isFault_116 : decode cL_isFault 116 = .ok (.aaload, 1) := by decide +kernel
theorem dL_isFault_117 : decode cL_isFault 117 = .ok (.astore 4, 2) := by decide +kernel
theorem dL_isFault_119 : decode cL_isFault 119 = .ok (.aload_n 1, 1) := by decide +kernel
theorem dL_isFault_120 : decode cL_isFault 120 = .ok (.iload_n 3, 1) := by decide +kernel
theorem dL_isFault_121 : decode cL_isFault 121 = .ok (.invokestatic 161, 3) := by decide +kernel
theorem dL_isFault_124 : decode cL_isFault 124 = .ok (.astore 5, 2) := by decide +kernel
theorem dL_isFault_126 : decode cL_isFault 126 = .ok (.iload_n 2, 1) := by decide +kernel
theorem dL_isFault_127 : decode cL_isFault 127 = .ok (.iconst 4, 1) := by decide +kernel
theorem dL_isFault_128 : decode cL_isFault 128 = .ok (.if_icmp .ne 40, 3) := by decide +kernel
theorem dL_isFault_131 : decode cL_isFault 131 = .ok (.aload 4, 2) := by decide +kernel
theorem dL_isFault_133 : decode cL_isFault 133 = .ok (.iconst 3, 1) := by decide +kernel
theorem dL_isFault_134 : decode cL_isFault 134 = .ok (.iaload, 1) := by decide +kernel
theorem dL_isFault_135 : decode cL_isFault 135 = .ok (.ifCond .lt 19, 3) := by decide +kernel
theorem dL_isFault_138 : decode cL_isFault 138 = .ok (.aload 4, 2) := by decide +kernel
theorem dL_isFault_140 : decode cL_isFault 140 = .ok (.iconst 5, 1) := by decide +kernel
theorem dL_isFault_141 : decode cL_isFault 141 = .ok (.iaload, 1) := by decide +kernel
theorem dL_isFault_142 : decode cL_isFault 142 = .ok (.iconst 2, 1) := by decide +kernel
theorem dL_isFault_143 : decode cL_isFault 143 = .ok (.if_icmp .le 7, 3) := by decide +kernel
theorem dL_isFault_146 : decode cL_isFault 146 = .ok (.iconst 1, 1) := by decide +kernel
theorem dL_isFault_147 : decode cL_isFault 147 = .ok (.goto 20, 3) := by decide +kernel
theorem dL_isFault_150 : decode cL_isFault 150 = .ok (.iconst 0, 1) := by decide +kernel
theorem dL_isFault_151 : decode cL_isFault 151 = .ok (.goto 16, 3) := by decide +kernel
theorem dL_isFault_154 : decode cL_isFault 154 = .ok (.aload 4, 2) := by decide +kernel
theorem dL_isFault_156 : decode cL_isFault 156 = .ok (.iconst 5, 1) := by decide +kernel
theorem dL_isFault_157 : decode cL_isFault 157 = .ok (.iaload, 1) := by decide +kernel
theorem dL_isFault_158 : decode cL_isFault 158 = .ok (.iconst 1, 1) := by decide +kernel
theorem dL_isFault_159 : decode cL_isFault 159 = .ok (.if_icmp .le 7, 3) := by decide +kernel
theorem dL_isFault_162 : decode cL_isFault 162 = .ok (.iconst 1, 1) := by decide +kernel
theorem dL_isFault_163 : decode cL_isFault 163 = .ok (.goto 4, 3) := by decide +kernel
theorem dL_isFault_166 : decode cL_isFault 166 = .ok (.iconst 0, 1) := by decide +kernel
theorem dL_isFault_167 : decode cL_isFault 167 = .ok (.ireturn, 1) := by decide +kernel
theorem dL_isFault_168 : decode cL_isFault 168 = .ok (.aload 4, 2) := by decide +kernel
theorem dL_isFault_170 : decode cL_isFault 170 = .ok (.iconst 3, 1) := by decide +kernel
theorem dL_isFault_171 : decode cL_isFault 171 = .ok (.iaload, 1) := by decide +kernel
theorem dL_isFault_172 : decode cL_isFault 172 = .ok (.ifCond .lt 14, 3) := by decide +kernel
theorem dL_isFault_175 : decode cL_isFault 175 = .ok (.aload 5, 2) := by decide +kernel
theorem dL_isFault_177 : decode cL_isFault 177 = .ok (.iconst 0, 1) := by decide +kernel
theorem dL_isFault_178 : decode cL_isFault 178 = .ok (.iaload, 1) := by decide +kernel
theorem dL_isFault_179 : decode cL_isFault 179 = .ok (.ifCond .lt 7, 3) := by decide +kernel
theorem dL_isFault_182 : decode cL_isFault 182 = .ok (.iconst 1, 1) := by decide +kernel
theorem dL_isFault_183 : decode cL_isFault 183 = .ok (.goto 4, 3) := by decide +kernel
theorem dL_isFault_186 : decode cL_isFault 186 = .ok (.iconst 0, 1) := by decide +kernel
theorem dL_isFault_187 : decode cL_isFault 187 = .ok (.istore 6, 2) := by decide +kernel
theorem dL_isFault_189 : decode cL_isFault 189 = .ok (.iload 6, 2) := by decide +kernel
theorem dL_isFault_191 : decode cL_isFault 191 = .ok (.ifCond .eq 58, 3) := by decide +kernel
theorem dL_isFault_194 : decode cL_isFault 194 = .ok (.iload_n 2, 1) := by decide +kernel
theorem dL_isFault_195 : decode cL_isFault 195 = .ok (.iconst 1, 1) := by decide +kernel
theorem dL_isFault_196 : decode cL_isFault 196 = .ok (.if_icmp .ne 27, 3) := by decide +kernel
theorem dL_isFault_199 : decode cL_isFault 199 = .ok (.aload 4, 2) := by decide +kernel
theorem dL_isFault_201 : decode cL_isFault 201 = .ok (.iconst 3, 1) := by decide +kernel
theorem dL_isFault_202 : decode cL_isFault 202 = .ok (.iaload, 1) := by decide +kernel
theorem dL_isFault_203 : decode cL_isFault 203 = .ok (.aload 5, 2) := by decide +kernel
theorem dL_isFault_205 : decode cL_isFault 205 = .ok (.iconst 0, 1) := by decide +kernel
theorem dL_isFault_206 : decode cL_isFault 206 = .ok (.iaload, 1) := by decide +kernel
theorem dL_isFault_207 : decode cL_isFault 207 = .ok (.isub, 1) := by decide +kernel
theorem dL_isFault_208 : decode cL_isFault 208 = .ok (.invokestatic 165, 3) := by decide +kernel
theorem dL_isFault_211 : decode cL_isFault 211 = .ok (.aload_n 0, 1) := by decide +kernel
theorem dL_isFault_212 : decode cL_isFault 212 = .ok (.bipush 7, 2) := by decide +kernel
theorem dL_isFault_214 : decode cL_isFault 214 = .ok (.invokevirtual 147, 3) := by decide +kernel
theorem dL_isFault_217 : decode cL_isFault 217 = .ok (.if_icmp .le 32, 3) := by decide +kernel
theorem dL_isFault_220 : decode cL_isFault 220 = .ok (.goto 25, 3) := by decide +kernel
theorem dL_isFault_223 : decode cL_isFault 223 = .ok (.aload 5, 2) := by decide +kernel
theorem dL_isFault_225 : decode cL_isFault 225 = .ok (.iconst 1, 1) := by decide +kernel
theorem dL_isFault_226 : decode cL_isFault 226 = .ok (.iaload, 1) := by decide +kernel
theorem dL_isFault_227 : decode cL_isFault 227 = .ok (.aload 4, 2) := by decide +kernel
theorem dL_isFault_229 : decode cL_isFault 229 = .ok (.iconst 3, 1) := by decide +kernel
theorem dL_isFault_230 : decode cL_isFault 230 = .ok (.iaload, 1) := by decide +kernel
theorem dL_isFault_231 : decode cL_isFault 231 = .ok (.if_icmp .ne 18, 3) := by decide +kernel
theorem dL_isFault_234 : decode cL_isFault 234 = .ok (.aload 5, 2) := by decide +kernel
theorem dL_isFault_236 : decode cL_isFault 236 = .ok (.iconst 0, 1) := by decide +kernel
theorem dL_isFault_237 : decode cL_isFault 237 = .ok (.iaload, 1) := by decide +kernel
theorem dL_isFault_238 : decode cL_isFault 238 = .ok (.aload 4, 2) := by decide +kernel
theorem dL_isFault_240 : decode cL_isFault 240 = .ok (.iconst 3, 1) := by decide +kernel
theorem dL_isFault_241 : decode cL_isFault 241 = .ok (.iaload, 1) := by decide +kernel
theorem dL_isFault_242 : decode cL_isFault 242 = .ok (.if_icmp .ne 7, 3) := by decide +kernel
theorem dL_isFault_245 : decode cL_isFault 245 = .ok (.iconst 1, 1) := by decide +kernel
theorem dL_isFault_246 : decode cL_isFault 246 = .ok (.goto 4, 3) := by decide +kernel
theorem dL_isFault_249 : decode cL_isFault 249 = .ok (.iconst 0, 1) := by decide +kernel
theorem dL_isFault_250 : decode cL_isFault 250 = .ok (.ireturn, 1) := by decide +kernel
theorem dL_faultsOf_0 : decode cL_faultsOf 0 = .ok (.iconst 0, 1) := by decide +kernel
theorem dL_faultsOf_1 : decode cL_faultsOf 1 = .ok (.istore_n 3, 1) := by decide +kernel
theorem dL_faultsOf_2 : decode cL_faultsOf 2 = .ok (.iconst 0, 1) := by decide +kernel
theorem dL_faultsOf_3 : decode cL_faultsOf 3 = .ok (.istore 4, 2) := by decide +kernel
theorem dL_faultsOf_5 : decode cL_faultsOf 5 = .ok (.iload 4, 2) := by decide +kernel
theorem dL_faultsOf_7 : decode cL_faultsOf 7 = .ok (.iload_n 2, 1) := by decide +kernel
theorem dL_faultsOf_8 : decode cL_faultsOf 8 = .ok (.iconst 3, 1) := by decide +kernel
theorem dL_faultsOf_9 : decode cL_faultsOf 9 = .ok (.if_icmp .ne 11, 3) := by decide +kernel
theorem dL_faultsOf_12 : decode cL_faultsOf 12 = .ok (.aload_n 0, 1) := by decide +kernel
theorem dL_faultsOf_13 : decode cL_faultsOf 13 = .ok (.iconst 0, 1) := by decide +kernel
theorem dL_faultsOf_14 : decode cL_faultsOf 14 = .ok (.invokevirtual 147, 3) := by decide +kernel
theorem dL_faultsOf_17 : decode cL_faultsOf 17 = .ok (.goto 5, 3) := by decide +kernel
theorem dL_faultsOf_20 : decode cL_faultsOf 20 = .ok (.aload_n 1, 1) := by decide +kernel
theorem dL_faultsOf_21 : decode cL_faultsOf 21 = .ok (.arraylength, 1) := by decide +kernel
theorem dL_faultsOf_22 : decode cL_faultsOf 22 = .ok (.if_icmp .ge 28, 3) := by decide +kernel
theorem dL_faultsOf_25 : decode cL_faultsOf 25 = .ok (.iload_n 3, 1) := by decide +kernel
theorem dL_faultsOf_26 : decode cL_faultsOf 26 = .ok (.aload_n 0, 1) := by decide +kernel
theorem dL_faultsOf_27 : decode cL_faultsOf 27 = .ok (.aload_n 1, 1) := by decide +kernel
theorem dL_faultsOf_28 : decode cL_faultsOf 28 = .ok (.iload_n 2, 1) := by decide +kernel
theorem dL_faultsOf_29 : decode cL_faultsOf 29 = .ok (.iload 4, 2) := by decide +kernel
theorem dL_faultsOf_31 : decode cL_faultsOf 31 = .ok (.invokestatic 170, 3) := by decide +kernel
theorem dL_faultsOf_34 : decode cL_faultsOf 34 = .ok (.ifCond .eq 7, 3) := by decide +kernel
theorem dL_faultsOf_37 : decode cL_faultsOf 37 = .ok (.iconst 1, 1) := by decide +kernel
theorem dL_faultsOf_38 : decode cL_faultsOf 38 = .ok (.goto 4, 3) := by decide +kernel
theorem dL_faultsOf_41 : decode cL_faultsOf 41 = .ok (.iconst 0, 1) := by decide +kernel
theorem dL_faultsOf_42 : decode cL_faultsOf 42 = .ok (.iadd, 1) := by decide +kernel
theorem dL_faultsOf_43 : decode cL_faultsOf 43 = .ok (.istore_n 3, 1) := by decide +kernel
theorem dL_faultsOf_44 : decode cL_faultsOf 44 = .ok (.iinc 4 1, 3) := by decide +kernel
theorem dL_faultsOf_47 : decode cL_faultsOf 47 = .ok (.goto (-42), 3) := by decide +kernel
theorem dL_faultsOf_50 : decode cL_faultsOf 50 = .ok (.iload_n 3, 1) := by decide +kernel
theorem dL_faultsOf_51 : decode cL_faultsOf 51 = .ok (.ireturn, 1) := by decide +kernel
theorem dL_allFaults_0 : decode cL_allFaults 0 = .ok (.aload_n 0, 1) := by decide +kernel
theorem dL_allFaults_1 : decode cL_allFaults 1 = .ok (.aload_n 1, 1) := by decide +kernel
theorem dL_allFaults_2 : decode cL_allFaults 2 = .ok (.iconst 1, 1) := by decide +kernel
theorem dL_allFaults_3 : decode cL_allFaults 3 = .ok (.invokestatic 174, 3) := by decide +kernel
theorem dL_allFaults_6 : decode cL_allFaults 6 = .ok (.aload_n 0, 1) := by decide +kernel
theorem dL_allFaults_7 : decode cL_allFaults 7 = .ok (.aload_n 1, 1) := by decide +kernel
theorem dL_allFaults_8 : decode cL_allFaults 8 = .ok (.iconst 2, 1) := by decide +kernel
theorem dL_allFaults_9 : decode cL_allFaults 9 = .ok (.invokestatic 174, 3) := by decide +kernel
theorem dL_allFaults_12 : decode cL_allFaults 12 = .ok (.iadd, 1) := by decide +kernel
theorem dL_allFaults_13 : decode cL_allFaults 13 = .ok (.aload_n 0, 1) := by decide +kernel
theorem dL_allFaults_14 : decode cL_allFaults 14 = .ok (.aload_n 1, 1) := by decide +kernel
theorem dL_allFaults_15 : decode cL_allFaults 15 = .ok (.iconst 3, 1) := by decide +kernel
theorem dL_allFaults_16 : decode cL_allFaults 16 = .ok (.invokestatic 174, 3) := by decide +kernel
theorem dL_allFaults_19 : decode cL_allFaults 19 = .ok (.iadd, 1) := by decide +kernel
theorem dL_allFaults_20 : decode cL_allFaults 20 = .ok (.aload_n 0, 1) := by decide +kernel
theorem dL_allFaults_21 : decode cL_allFaults 21 = .ok (.aload_n 1, 1) := by decide +kernel
theorem dL_allFaults_22 : decode cL_allFaults 22 = .ok (.iconst 4, 1) := by decide +kernel
theorem dL_allFaults_23 : decode cL_allFaults 23 = .ok (.invokestatic 174, 3) := by decide +kernel
theorem dL_allFaults_26 : decode cL_allFaults 26 = .ok (.iadd, 1) := by decide +kernel
theorem dL_allFaults_27 : decode cL_allFaults 27 = .ok (.ireturn, 1) := by decide +kernel
theorem dL_law_0 : decode cL_law 0 = .ok (.aload_n 0, 1) := by decide +kernel
theorem dL_law_1 : decode cL_law 1 = .ok (.invokestatic 178, 3) := by decide +kernel
theorem dL_law_4 : decode cL_law 4 = .ok (.astore_n 1, 1) := by decide +kernel
theorem dL_law_5 : decode cL_law 5 = .ok (.aload_n 1, 1) := by decide +kernel
theorem dL_law_6 : decode cL_law 6 = .ok (.ifnull 50, 3) := by decide +kernel
theorem dL_law_9 : decode cL_law 9 = .ok (.aload_n 1, 1) := by decide +kernel
theorem dL_law_10 : decode cL_law 10 = .ok (.invokestatic 182, 3) := by decide +kernel
theorem dL_law_13 : decode cL_law 13 = .ok (.ifCond .eq 43, 3) := by decide +kernel
theorem dL_law_16 : decode cL_law 16 = .ok (.aload_n 1, 1) := by decide +kernel
theorem dL_law_17 : decode cL_law 17 = .ok (.invokestatic 186, 3) := by decide +kernel
theorem dL_law_20 : decode cL_law 20 = .ok (.ifCond .eq 36, 3) := by decide +kernel
theorem dL_law_23 : decode cL_law 23 = .ok (.aload_n 1, 1) := by decide +kernel
theorem dL_law_24 : decode cL_law 24 = .ok (.invokestatic 189, 3) := by decide +kernel
theorem dL_law_27 : decode cL_law 27 = .ok (.ifCond .eq 29, 3) := by decide +kernel
theorem dL_law_30 : decode cL_law 30 = .ok (.aload_n 1, 1) := by decide +kernel
theorem dL_law_31 : decode cL_law 31 = .ok (.invokestatic 192, 3) := by decide +kernel
theorem dL_law_34 : decode cL_law 34 = .ok (.ifCond .eq 22, 3) := by decide +kernel
theorem dL_law_37 : decode cL_law 37 = .ok (.aload_n 1, 1) := by decide +kernel
theorem dL_law_38 : decode cL_law 38 = .ok (.invokestatic 195, 3) := by decide +kernel
theorem dL_law_41 : decode cL_law 41 = .ok (.ifCond .eq 15, 3) := by decide +kernel
theorem dL_law_44 : decode cL_law 44 = .ok (.aload_n 0, 1) := by decide +kernel
theorem dL_law_45 : decode cL_law 45 = .ok (.aload_n 1, 1) := by decide +kernel
theorem dL_law_46 : decode cL_law 46 = .ok (.invokestatic 198, 3) := by decide +kernel
theorem dL_law_49 : decode cL_law 49 = .ok (.ifCond .eq 7, 3) := by decide +kernel
theorem dL_law_52 : decode cL_law 52 = .ok (.iconst 1, 1) := by decide +kernel
theorem dL_law_53 : decode cL_law 53 = .ok (.goto 4, 3) := by decide +kernel
theorem dL_law_56 : decode cL_law 56 = .ok (.iconst 0, 1) := by decide +kernel
theorem dL_law_57 : decode cL_law 57 = .ok (.ireturn, 1) := by decide +kernel
theorem dL_parts_0 : decode cL_parts 0 = .ok (.aload_n 0, 1) := by decide +kernel
theorem dL_parts_1 : decode cL_parts 1 = .ok (.invokestatic 202, 3) := by decide +kernel
theorem dL_parts_4 : decode cL_parts 4 = .ok (.astore_n 1, 1) := by decide +kernel
theorem dL_parts_5 : decode cL_parts 5 = .ok (.iconst 0, 1) := by decide +kernel
theorem dL_parts_6 : decode cL_parts 6 = .ok (.istore_n 2, 1) := by decide +kernel
theorem dL_parts_7 : decode cL_parts 7 = .ok (.iconst 0, 1) := by decide +kernel
theorem dL_parts_8 : decode cL_parts 8 = .ok (.istore_n 3, 1) := by decide +kernel
theorem dL_parts_9 : decode cL_parts 9 = .ok (.iconst 0, 1) := by decide +kernel
theorem dL_parts_10 : decode cL_parts 10 = .ok (.istore 4, 2) := by decide +kernel
theorem dL_parts_12 : decode cL_parts 12 = .ok (.iconst 0, 1) := by decide +kernel
theorem dL_parts_13 : decode cL_parts 13 = .ok (.istore 5, 2) := by decide +kernel
theorem dL_parts_15 : decode cL_parts 15 = .ok (.iload 5, 2) := by decide +kernel
theorem dL_parts_17 : decode cL_parts 17 = .ok (.aload_n 0, 1) := by decide +kernel
theorem dL_parts_18 : decode cL_parts 18 = .ok (.iconst 0, 1) := by decide +kernel
theorem dL_parts_19 : decode cL_parts 19 = .ok (.invokevirtual 147, 3) := by decide +kernel
theorem dL_parts_22 : decode cL_parts 22 = .ok (.if_icmp .ge 309, 3) := by decide +kernel
theorem dL_parts_25 : decode cL_parts 25 = .ok (.aload_n 0, 1) := by decide +kernel
theorem dL_parts_26 : decode cL_parts 26 = .ok (.iload 5, 2) := by decide +kernel
theorem dL_parts_28 : decode cL_parts 28 = .ok (.iconst 0, 1) := by decide +kernel
theorem dL_parts_29 : decode cL_parts 29 = .ok (.invokestatic 159, 3) := by decide +kernel
theorem dL_parts_32 : decode cL_parts 32 = .ok (.istore 6, 2) := by decide +kernel
theorem dL_parts_34 : decode cL_parts 34 = .ok (.iconst 0, 1) := by decide +kernel
theorem dL_parts_35 : decode cL_parts 35 = .ok (.istore 7, 2) := by decide +kernel
theorem dL_parts_37 : decode cL_parts 37 = .ok (.iconst 0, 1) := by decide +kernel
theorem dL_parts_38 : decode cL_parts 38 = .ok (.istore 8, 2) := by decide +kernel
theorem dL_parts_40 : decode cL_parts 40 = .ok (.iconst 0, 1) := by decide +kernel
theorem dL_parts_41 : decode cL_parts 41 = .ok (.istore 9, 2) := by decide +kernel
theorem dL_parts_43 : decode cL_parts 43 = .ok (.iconst 0, 1) := by decide +kernel
theorem dL_parts_44 : decode cL_parts 44 = .ok (.istore 10, 2) := by decide +kernel
theorem dL_parts_46 : decode cL_parts 46 = .ok (.iload 10, 2) := by decide +kernel
theorem dL_parts_48 : decode cL_parts 48 = .ok (.aload_n 1, 1) := by decide +kernel
theorem dL_parts_49 : decode cL_parts 49 = .ok (.arraylength, 1) := by decide +kernel
theorem dL_parts_50 : decode cL_parts 50 = .ok (.if_icmp .ge 182, 3) := by decide +kernel
theorem dL_parts_53 : decode cL_parts 53 = .ok (.iload_n 2, 1) := by decide +kernel
theorem dL_parts_54 : decode cL_parts 54 = .ok (.aload_n 1, 1) := by decide +kernel
theorem dL_parts_55 : decode cL_parts 55 = .ok (.iload 10, 2) := by decide +kernel
theorem dL_parts_57 : decode cL_parts 57 = .ok (.aaload, 1) := by decide +kernel
theorem dL_parts_58 : decode cL_parts 58 = .ok (.iconst 4, 1) := by decide +kernel
theorem dL_parts_59 : decode cL_parts 59 = .ok (.iaload, 1) := by decide +kernel
theorem dL_parts_60 : decode cL_parts 60 = .ok (.invokestatic 206, 3) := by decide +kernel
theorem dL_parts_63 : decode cL_parts 63 = .ok (.istore 11, 2) := by decide +kernel
theorem dL_parts_65 : decode cL_parts 65 = .ok (.iload_n 2, 1) := by decide +kernel
theorem dL_parts_66 : decode cL_parts 66 = .ok (.iload 6, 2) := by decide +kernel
theorem dL_parts_68 : decode cL_parts 68 = .ok (.iadd, 1) := by decide +kernel
theorem dL_parts_69 : decode cL_parts 69 = .ok (.aload_n 1, 1) := by decide +kernel
theorem dL_parts_70 : decode cL_parts 70 = .ok (.iload 10, 2) := by decide +kernel
theorem dL_parts_72 : decode cL_parts 72 = .ok (.aaload, 1) := by decide +kernel
theorem dL_parts_73 : decode cL_parts 73 = .ok (.iconst 4, 1) := by decide +kernel
theorem dL_parts_74 : decode cL_parts 74 = .ok (.iaload, 1) := by decide +kernel
theorem dL_parts_75 : decode cL_parts 75 = .ok (.aload_n 1, 1) := by decide +kernel
theorem dL_parts_76 : decode cL_parts 76 = .ok (.iload 10, 2) := by decide +kernel
theorem dL_parts_78 : decode cL_parts 78 = .ok (.aaload, 1) := by decide +kernel
theorem dL_parts_79 : decode cL_parts 79 = .ok (.iconst 2, 1) := by decide +kernel
theorem dL_parts_80 : decode cL_parts 80 = .ok (.iaload, 1) := by decide +kernel
theorem dL_parts_81 : decode cL_parts 81 = .ok (.iadd, 1) := by decide +kernel
theorem dL_parts_82 : decode cL_parts 82 = .ok (.invokestatic 209, 3) := by decide +kernel
theorem dL_parts_85 : decode cL_parts 85 = .ok (.istore 12, 2) := by decide +kernel
theorem dL_parts_87 : decode cL_parts 87 = .ok (.iload 9, 2) := by decide +kernel
theorem dL_parts_89 : decode cL_parts 89 = .ok (.aload_n 1, 1) := by decide +kernel
theorem dL_parts_90 : decode cL_parts 90 = .ok (.iload 10, 2) := by decide +kernel
theorem dL_parts_92 : decode cL_parts 92 = .ok (.aaload, 1) := by decide +kernel
theorem dL_parts_93 : decode cL_parts 93 = .ok (.iconst 4, 1) := by decide +kernel
theorem dL_parts_94 : decode cL_parts 94 = .ok (.iaload, 1) := by decide +kernel
theorem dL_parts_95 : decode cL_parts 95 = .ok (.iload_n 2, 1) := by decide +kernel
theorem dL_parts_96 : decode cL_parts 96 = .ok (.if_icmp .lt 20, 3) := by decide +kernel
theorem dL_parts_99 : decode cL_parts 99 = .ok (.aload_n 1, 1) := by decide +kernel
theorem dL_parts_100 : decode cL_parts 100 = .ok (.iload 10, 2) := by decide +kernel
theorem dL_parts_102 : decode cL_parts 102 = .ok (.aaload, 1) := by decide +kernel
theorem dL_parts_103 : decode cL_parts 103 = .ok (.iconst 4, 1) := by decide +kernel
theorem dL_parts_104 : decode cL_parts 104 = .ok (.iaload, 1) := by decide +kernel
theorem dL_parts_105 : decode cL_parts 105 = .ok (.iload_n 2, 1) := by decide +kernel
theorem dL_parts_106 : decode cL_parts 106 = .ok (.iload 6, 2) := by decide +kernel
theorem dL_parts_108 : decode cL_parts 108 = .ok (.iadd, 1) := by decide +kernel
theorem dL_parts_109 : decode cL_parts 109 = .ok (.if_icmp .ge 7, 3) := by decide +kernel
theorem dL_parts_112 : decode cL_parts 112 = .ok (.iconst 1, 1) := by decide +kernel
theorem dL_parts_113 : decode cL_parts 113 = .ok (.goto 4, 3) := by decide +kernel
theorem dL_parts_116 : decode cL_parts 116 = .ok (.iconst 0, 1) := by decide +kernel
theorem dL_parts_117 : decode cL_parts 117 = .ok (.iadd, 1) := by decide +kernel
theorem dL_parts_118 : decode cL_parts 118 = .ok (.istore 9, 2) := by decide +kernel
theorem dL_parts_120 : decode cL_parts 120 = .ok (.iload 11, 2) := by decide +kernel
theorem dL_parts_122 : decode cL_parts 122 = .ok (.iload 12, 2) := by decide +kernel
theorem dL_parts_124 : decode cL_parts 124 = .ok (.if_icmp .ge 102, 3) := by decide +kernel
theorem dL_parts_127 : decode cL_parts 127 = .ok (.aload_n 0, 1) := by decide +kernel
theorem dL_parts_128 : decode cL_parts 128 = .ok (.iload 5, 2) := by decide +kernel
theorem dL_parts_130 : decode cL_parts 130 = .ok (.iload 7, 2) := by decide +kernel
theorem dL_parts_132 : decode cL_parts 132 = .ok (.iconst 0, 1) := by decide +kernel
theorem dL_parts_133 : decode cL_parts 133 = .ok (.invokestatic 212, 3) := by decide +kernel
theorem dL_parts_136 : decode cL_parts 136 = .ok (.iload 10, 2) := by decide +kernel
theorem dL_parts_138 : decode cL_parts 138 = .ok (.if_icmp .ne 65, 3) := by decide +kernel
theorem dL_parts_141 : decode cL_parts 141 = .ok (.aload_n 0, 1) := by decide +kernel
theorem dL_parts_142 : decode cL_parts 142 = .ok (.iload 5, 2) := by decide +kernel
theorem dL_parts_144 : decode cL_parts 144 = .ok (.iload 7, 2) := by decide +kernel
theorem dL_parts_146 : decode cL_parts 146 = .ok (.iconst 1, 1) := by decide +kernel
theorem dL_parts_147 : decode cL_parts 147 = .ok (.invokestatic 212, 3) := by decide +kernel
theorem dL_parts_150 : decode cL_parts 150 = .ok (.iload 12, 2) := by decide +kernel
theorem dL_parts_152 : decode cL_parts 152 = .ok (.iload 11, 2) := by decide +kernel
theorem dL_parts_154 : decode cL_parts 154 = .ok (.isub, 1) := by decide +kernel
theorem dL_parts_155 : decode cL_parts 155 = .ok (.if_icmp .ne 48, 3) := by decide +kernel
theorem dL_parts_158 : decode cL_parts 158 = .ok (.aload_n 0, 1) := by decide +kernel
theorem dL_parts_159 : decode cL_parts 159 = .ok (.iload 5, 2) := by decide +kernel
theorem dL_parts_161 : decode cL_parts 161 = .ok (.iload 7, 2) := by decide +kernel
theorem dL_parts_163 : decode cL_parts 163 = .ok (.iconst 2, 1) := by decide +kernel
theorem dL_parts_164 : decode cL_parts 164 = .ok (.invokestatic 212, 3) := by decide +kernel
theorem dL_parts_167 : decode cL_parts 167 = .ok (.aload_n 1, 1) := by decide +kernel
theorem dL_parts_168 : decode cL_parts 168 = .ok (.iload 10, 2) := by decide +kernel
theorem dL_parts_170 : decode cL_parts 170 = .ok (.aaload, 1) := by decide +kernel
theorem dL_parts_171 : decode cL_parts 171 = .ok (.iconst 4, 1) := by decide +kernel
theorem dL_parts_172 : decode cL_parts 172 = .ok (.iaload, 1) := by decide +kernel
theorem dL_parts_173 : decode cL_parts 173 = .ok (.iload_n 2, 1) := by decide +kernel
theorem dL_parts_174 : decode cL_parts 174 = .ok (.if_icmp .ge 7, 3) := by decide +kernel
theorem dL_parts_177 : decode cL_parts 177 = .ok (.iconst 1, 1) := by decide +kernel
theorem dL_parts_178 : decode cL_parts 178 = .ok (.goto 4, 3) := by decide +kernel
theorem dL_parts_181 : decode cL_parts 181 = .ok (.iconst 0, 1) := by decide +kernel
theorem dL_parts_182 : decode cL_parts 182 = .ok (.if_icmp .ne 21, 3) := by decide +kernel
theorem dL_parts_185 : decode cL_parts 185 = .ok (.aload_n 0, 1) := by decide +kernel
theorem dL_parts_186 : decode cL_parts 186 = .ok (.iload 5, 2) := by decide +kernel
theorem dL_parts_188 : decode cL_parts 188 = .ok (.iload 7, 2) := by decide +kernel
theorem dL_parts_190 : decode cL_parts 190 = .ok (.iconst 3, 1) := by decide +kernel
theorem dL_parts_191 : decode cL_parts 191 = .ok (.invokestatic 212, 3) := by decide +kernel
theorem dL_parts_194 : decode cL_parts 194 = .ok (.bipush (-12), 2) := by decide +kernel
theorem dL_parts_196 : decode cL_parts 196 = .ok (.if_icmp .ne 7, 3) := by decide +kernel
theorem dL_parts_199 : decode cL_parts 199 = .ok (.iconst 1, 1) := by decide +kernel
theorem dL_parts_200 : decode cL_parts 200 = .ok (.goto 4, 3) := by decide +kernel
theorem dL_parts_203 : decode cL_parts 203 = .ok (.iconst 0, 1) := by decide +kernel
theorem dL_parts_204 : decode cL_parts 204 = .ok (.istore 13, 2) := by decide +kernel
theorem dL_parts_206 : decode cL_parts 206 = .ok (.iload 13, 2) := by decide +kernel
theorem dL_parts_208 : decode cL_parts 208 = .ok (.ifCond .ne 5, 3) := by decide +kernel
theorem dL_parts_211 : decode cL_parts 211 = .ok (.iconst 0, 1) := by decide +kernel
theorem dL_parts_212 : decode cL_parts 212 = .ok (.ireturn, 1) := by decide +kernel
theorem dL_parts_213 : decode cL_parts 213 = .ok (.iinc 7 1, 3) := by decide +kernel
theorem dL_parts_216 : decode cL_parts 216 = .ok (.iload 8, 2) := by decide +kernel
theorem dL_parts_218 : decode cL_parts 218 = .ok (.iload 12, 2) := by decide +kernel
theorem dL_parts_220 : decode cL_parts 220 = .ok (.iload 11, 2) := by decide +kernel
theorem dL_parts_222 : decode cL_parts 222 = .ok (.isub, 1) := by decide +kernel
theorem dL_parts_223 : decode cL_parts 223 = .ok (.iadd, 1) := by decide +kernel
theorem dL_parts_224 : decode cL_parts 224 = .ok (.istore 8, 2) := by decide +kernel
theorem dL_parts_226 : decode cL_parts 226 = .ok (.iinc 10 1, 3) := by decide +kernel
theorem dL_parts_229 : decode cL_parts 229 = .ok (.goto (-183), 3) := by decide +kernel
theorem dL_parts_232 : decode cL_parts 232 = .ok (.aload_n 0, 1) := by decide +kernel
theorem dL_parts_233 : decode cL_parts 233 = .ok (.iload 5, 2) := by decide +kernel
theorem dL_parts_235 : decode cL_parts 235 = .ok (.iconst 1, 1) := by decide +kernel
theorem dL_parts_236 : decode cL_parts 236 = .ok (.invokestatic 159, 3) := by decide +kernel
theorem dL_parts_239 : decode cL_parts 239 = .ok (.iload 8, 2) := by decide +kernel
theorem dL_parts_241 : decode cL_parts 241 = .ok (.if_icmp .ne 65, 3) := by decide +kernel
theorem dL_parts_244 : decode cL_parts 244 = .ok (.aload_n 0, 1) := by decide +kernel
theorem dL_parts_245 : decode cL_parts 245 = .ok (.iload 5, 2) := by decide +kernel
theorem dL_parts_247 : decode cL_parts 247 = .ok (.iconst 2, 1) := by decide +kernel
theorem dL_parts_248 : decode cL_parts 248 = .ok (.invokestatic 159, 3) := by decide +kernel
theorem dL_parts_251 : decode cL_parts 251 = .ok (.iload 7, 2) := by decide +kernel
theorem dL_parts_253 : decode cL_parts 253 = .ok (.if_icmp .ne 53, 3) := by decide +kernel
theorem dL_parts_256 : decode cL_parts 256 = .ok (.aload_n 0, 1) := by decide +kernel
theorem dL_parts_257 : decode cL_parts 257 = .ok (.iload 5, 2) := by decide +kernel
theorem dL_parts_259 : decode cL_parts 259 = .ok (.iconst 3, 1) := by decide +kernel
theorem dL_parts_260 : decode cL_parts 260 = .ok (.invokestatic 159, 3) := by decide +kernel
theorem dL_parts_263 : decode cL_parts 263 = .ok (.iload 9, 2) := by decide +kernel
theorem dL_parts_265 : decode cL_parts 265 = .ok (.if_icmp .ne 41, 3) := by decide +kernel
theorem dL_parts_268 : decode cL_parts 268 = .ok (.aload_n 0, 1) := by decide +kernel
theorem dL_parts_269 : decode cL_parts 269 = .ok (.iload 5, 2) := by decide +kernel
theorem dL_parts_271 : decode cL_parts 271 = .ok (.iconst 4, 1) := by decide +kernel
theorem dL_parts_272 : decode cL_parts 272 = .ok (.invokestatic 159, 3) := by decide +kernel
theorem dL_parts_275 : decode cL_parts 275 = .ok (.iload_n 2, 1) := by decide +kernel
theorem dL_parts_276 : decode cL_parts 276 = .ok (.if_icmp .ne 30, 3) := by decide +kernel
theorem dL_parts_279 : decode cL_parts 279 = .ok (.aload_n 0, 1) := by decide +kernel
theorem dL_parts_280 : decode cL_parts 280 = .ok (.iload 5, 2) := by decide +kernel
theorem dL_parts_282 : decode cL_parts 282 = .ok (.iconst 5, 1) := by decide +kernel
theorem dL_parts_283 : decode cL_parts 283 = .ok (.invokestatic 159, 3) := by decide +kernel
theorem dL_parts_286 : decode cL_parts 286 = .ok (.bipush (-12), 2) := by decide +kernel
theorem dL_parts_288 : decode cL_parts 288 = .ok (.if_icmp .ne 18, 3) := by decide +kernel
theorem dL_parts_291 : decode cL_parts 291 = .ok (.aload_n 0, 1) := by decide +kernel
theorem dL_parts_292 : decode cL_parts 292 = .ok (.iload 5, 2) := by decide +kernel
theorem dL_parts_294 : decode cL_parts 294 = .ok (.iload 7, 2) := by decide +kernel
theorem dL_parts_296 : decode cL_parts 296 = .ok (.bipush 9, 2) := by decide +kernel
theorem dL_parts_298 : decode cL_parts 298 = .ok (.invokestatic 212, 3) := by decide +kernel
theorem dL_parts_301 : decode cL_parts 301 = .ok (.bipush (-11), 2) := by decide +kernel
theorem dL_parts_303 : decode cL_parts 303 = .ok (.if_icmp .eq 5, 3) := by decide +kernel
theorem dL_parts_306 : decode cL_parts 306 = .ok (.iconst 0, 1) := by decide +kernel
theorem dL_parts_307 : decode cL_parts 307 = .ok (.ireturn, 1) := by decide +kernel
theorem dL_parts_308 : decode cL_parts 308 = .ok (.iload_n 2, 1) := by decide +kernel
theorem dL_parts_309 : decode cL_parts 309 = .ok (.iload 6, 2) := by decide +kernel
theorem dL_parts_311 : decode cL_parts 311 = .ok (.iadd, 1) := by decide +kernel
theorem dL_parts_312 : decode cL_parts 312 = .ok (.istore_n 2, 1) := by decide +kernel
theorem dL_parts_313 : decode cL_parts 313 = .ok (.iload_n 3, 1) := by decide +kernel
theorem dL_parts_314 : decode cL_parts 314 = .ok (.iload 7, 2) := by decide +kernel
theorem dL_parts_316 : decode cL_parts 316 = .ok (.iadd, 1) := by decide +kernel
theorem dL_parts_317 : decode cL_parts 317 = .ok (.istore_n 3, 1) := by decide +kernel
theorem dL_parts_318 : decode cL_parts 318 = .ok (.iload 4, 2) := by decide +kernel
theorem dL_parts_320 : decode cL_parts 320 = .ok (.iload 8, 2) := by decide +kernel
theorem dL_parts_322 : decode cL_parts 322 = .ok (.iadd, 1) := by decide +kernel
theorem dL_parts_323 : decode cL_parts 323 = .ok (.istore 4, 2) := by decide +kernel
theorem dL_parts_325 : decode cL_parts 325 = .ok (.iinc 5 1, 3) := by decide +kernel
theorem dL_parts_328 : decode cL_parts 328 = .ok (.goto (-313), 3) := by decide +kernel
theorem dL_parts_331 : decode cL_parts 331 = .ok (.iconst 0, 1) := by decide +kernel
theorem dL_parts_332 : decode cL_parts 332 = .ok (.istore 5, 2) := by decide +kernel
theorem dL_parts_334 : decode cL_parts 334 = .ok (.iload 5, 2) := by decide +kernel
theorem dL_parts_336 : decode cL_parts 336 = .ok (.aload_n 1, 1) := by decide +kernel
theorem dL_parts_337 : decode cL_parts 337 = .ok (.arraylength, 1) := by decide +kernel
theorem dL_parts_338 : decode cL_parts 338 = .ok (.if_icmp .ge 179, 3) := by decide +kernel
theorem dL_parts_341 : decode cL_parts 341 = .ok (.aload_n 0, 1) := by decide +kernel
theorem dL_parts_342 : decode cL_parts 342 = .ok (.iload 5, 2) := by decide +kernel
theorem dL_parts_344 : decode cL_parts 344 = .ok (.bipush 6, 2) := by decide +kernel
theorem dL_parts_346 : decode cL_parts 346 = .ok (.invokestatic 154, 3) := by decide +kernel
theorem dL_parts_349 : decode cL_parts 349 = .ok (.istore 6, 2) := by decide +kernel
theorem dL_parts_351 : decode cL_parts 351 = .ok (.aload_n 0, 1) := by decide +kernel
theorem dL_parts_352 : decode cL_parts 352 = .ok (.iload 6, 2) := by decide +kernel
theorem dL_parts_354 : decode cL_parts 354 = .ok (.iconst 4, 1) := by decide +kernel
theorem dL_parts_355 : decode cL_parts 355 = .ok (.invokestatic 159, 3) := by decide +kernel
theorem dL_parts_358 : decode cL_parts 358 = .ok (.aload_n 1, 1) := by decide +kernel
theorem dL_parts_359 : decode cL_parts 359 = .ok (.iload 5, 2) := by decide +kernel
theorem dL_parts_361 : decode cL_parts 361 = .ok (.aaload, 1) := by decide +kernel
theorem dL_parts_362 : decode cL_parts 362 = .ok (.iconst 4, 1) := by decide +kernel
theorem dL_parts_363 : decode cL_parts 363 = .ok (.iaload, 1) := by decide +kernel
theorem dL_parts_364 : decode cL_parts 364 = .ok (.if_icmp .gt 31, 3) := by decide +kernel
theorem dL_parts_367 : decode cL_parts 367 = .ok (.aload_n 0, 1) := by decide +kernel
theorem dL_parts_368 : decode cL_parts 368 = .ok (.iload 6, 2) := by decide +kernel
theorem dL_parts_370 : decode cL_parts 370 = .ok (.iconst 4, 1) := by decide +kernel
theorem dL_parts_371 : decode cL_parts 371 = .ok (.invokestatic 159, 3) := by decide +kernel
theorem dL_parts_374 : decode cL_parts 374 = .ok (.aload_n 0, 1) := by decide +kernel
theorem dL_parts_375 : decode cL_parts 375 = .ok (.iload 6, 2) := by decide +kernel
theorem dL_parts_377 : decode cL_parts 377 = .ok (.iconst 0, 1) := by decide +kernel
theorem dL_parts_378 : decode cL_parts 378 = .ok (.invokestatic 159, 3) := by decide +kernel
theorem dL_parts_381 : decode cL_parts 381 = .ok (.iadd, 1) := by decide +kernel
theorem dL_parts_382 : decode cL_parts 382 = .ok (.aload_n 1, 1) := by decide +kernel
theorem dL_parts_383 : decode cL_parts 383 = .ok (.iload 5, 2) := by decide +kernel
theorem dL_parts_385 : decode cL_parts 385 = .ok (.aaload, 1) := by decide +kernel
theorem dL_parts_386 : decode cL_parts 386 = .ok (.iconst 4, 1) := by decide +kernel
theorem dL_parts_387 : decode cL_parts 387 = .ok (.iaload, 1) := by decide +kernel
theorem dL_parts_388 : decode cL_parts 388 = .ok (.if_icmp .le 7, 3) := by decide +kernel
theorem dL_parts_391 : decode cL_parts 391 = .ok (.iconst 1, 1) := by decide +kernel
theorem dL_parts_392 : decode cL_parts 392 = .ok (.goto 4, 3) := by decide +kernel
theorem dL_parts_395 : decode cL_parts 395 = .ok (.iconst 0, 1) := by decide +kernel
theorem dL_parts_396 : decode cL_parts 396 = .ok (.istore 7, 2) := by decide +kernel
theorem dL_parts_398 : decode cL_parts 398 = .ok (.aload_n 0, 1) := by decide +kernel
theorem dL_parts_399 : decode cL_parts 399 = .ok (.iload 5, 2) := by decide +kernel
theorem dL_parts_401 : decode cL_parts 401 = .ok (.iconst 3, 1) := by decide +kernel
theorem dL_parts_402 : decode cL_parts 402 = .ok (.invokestatic 154, 3) := by decide +kernel
theorem dL_parts_405 : decode cL_parts 405 = .ok (.aload_n 1, 1) := by decide +kernel
theorem dL_parts_406 : decode cL_parts 406 = .ok (.iload 5, 2) := by decide +kernel
theorem dL_parts_408 : decode cL_parts 408 = .ok (.aaload, 1) := by decide +kernel
theorem dL_parts_409 : decode cL_parts 409 = .ok (.iconst 3, 1) := by decide +kernel
theorem dL_parts_410 : decode cL_parts 410 = .ok (.iaload, 1) := by decide +kernel
theorem dL_parts_411 : decode cL_parts 411 = .ok (.if_icmp .ne 53, 3) := by decide +kernel
theorem dL_parts_414 : decode cL_parts 414 = .ok (.aload_n 0, 1) := by decide +kernel
theorem dL_parts_415 : decode cL_parts 415 = .ok (.iload 5, 2) := by decide +kernel
theorem dL_parts_417 : decode cL_parts 417 = .ok (.iconst 4, 1) := by decide +kernel
theorem dL_parts_418 : decode cL_parts 418 = .ok (.invokestatic 154, 3) := by decide +kernel
theorem dL_parts_421 : decode cL_parts 421 = .ok (.aload_n 1, 1) := by decide +kernel
theorem dL_parts_422 : decode cL_parts 422 = .ok (.iload 5, 2) := by decide +kernel
theorem dL_parts_424 : decode cL_parts 424 = .ok (.aaload, 1) := by decide +kernel
theorem dL_parts_425 : decode cL_parts 425 = .ok (.iconst 5, 1) := by decide +kernel
theorem dL_parts_426 : decode cL_parts 426 = .ok (.iaload, 1) := by decide +kernel
theorem dL_parts_427 : decode cL_parts 427 = .ok (.if_icmp .ne 37, 3) := by decide +kernel
theorem dL_parts_430 : decode cL_parts 430 = .ok (.aload_n 0, 1) := by decide +kernel
theorem dL_parts_431 : decode cL_parts 431 = .ok (.iload 5, 2) := by decide +kernel
theorem dL_parts_433 : decode cL_parts 433 = .ok (.iconst 5, 1) := by decide +kernel
theorem dL_parts_434 : decode cL_parts 434 = .ok (.invokestatic 154, 3) := by decide +kernel
theorem dL_parts_437 : decode cL_parts 437 = .ok (.aload_n 1, 1) := by decide +kernel
theorem dL_parts_438 : decode cL_parts 438 = .ok (.iload 5, 2) := by decide +kernel
theorem dL_parts_440 : decode cL_parts 440 = .ok (.aaload, 1) := by decide +kernel
theorem dL_parts_441 : decode cL_parts 441 = .ok (.iconst 4, 1) := by decide +kernel
theorem dL_parts_442 : decode cL_parts 442 = .ok (.iaload, 1) := by decide +kernel
theorem dL_parts_443 : decode cL_parts 443 = .ok (.if_icmp .ne 21, 3) := by decide +kernel
theorem dL_parts_446 : decode cL_parts 446 = .ok (.iload 7, 2) := by decide +kernel
theorem dL_parts_448 : decode cL_parts 448 = .ok (.ifCond .eq 16, 3) := by decide +kernel
theorem dL_parts_451 : decode cL_parts 451 = .ok (.aload_n 0, 1) := by decide +kernel
theorem dL_parts_452 : decode cL_parts 452 = .ok (.iload 5, 2) := by decide +kernel
theorem dL_parts_454 : decode cL_parts 454 = .ok (.bipush 7, 2) := by decide +kernel
theorem dL_parts_456 : decode cL_parts 456 = .ok (.invokestatic 154, 3) := by decide +kernel
theorem dL_parts_459 : decode cL_parts 459 = .ok (.bipush (-12), 2) := by decide +kernel
theorem dL_parts_461 : decode cL_parts 461 = .ok (.if_icmp .eq 5, 3) := by decide +kernel
theorem dL_parts_464 : decode cL_parts 464 = .ok (.iconst 0, 1) := by decide +kernel
theorem dL_parts_465 : decode cL_parts 465 = .ok (.ireturn, 1) := by decide +kernel
theorem dL_parts_466 : decode cL_parts 466 = .ok (.aload_n 1, 1) := by decide +kernel
theorem dL_parts_467 : decode cL_parts 467 = .ok (.iload 5, 2) := by decide +kernel
theorem dL_parts_469 : decode cL_parts 469 = .ok (.aaload, 1) := by decide +kernel
theorem dL_parts_470 : decode cL_parts 470 = .ok (.iconst 4, 1) := by decide +kernel
theorem dL_parts_471 : decode cL_parts 471 = .ok (.iaload, 1) := by decide +kernel
theorem dL_parts_472 : decode cL_parts 472 = .ok (.istore 8, 2) := by decide +kernel
theorem dL_parts_474 : decode cL_parts 474 = .ok (.iload 8, 2) := by decide +kernel
theorem dL_parts_476 : decode cL_parts 476 = .ok (.aload_n 1, 1) := by decide +kernel
theorem dL_parts_477 : decode cL_parts 477 = .ok (.iload 5, 2) := by decide +kernel
theorem dL_parts_479 : decode cL_parts 479 = .ok (.aaload, 1) := by decide +kernel
theorem dL_parts_480 : decode cL_parts 480 = .ok (.iconst 4, 1) := by decide +kernel
theorem dL_parts_481 : decode cL_parts 481 = .ok (.iaload, 1) := by decide +kernel
theorem dL_parts_482 : decode cL_parts 482 = .ok (.aload_n 1, 1) := by decide +kernel
theorem dL_parts_483 : decode cL_parts 483 = .ok (.iload 5, 2) := by decide +kernel
theorem dL_parts_485 : decode cL_parts 485 = .ok (.aaload, 1) := by decide +kernel
theorem dL_parts_486 : decode cL_parts 486 = .ok (.iconst 2, 1) := by decide +kernel
theorem dL_parts_487 : decode cL_parts 487 = .ok (.iaload, 1) := by decide +kernel
theorem dL_parts_488 : decode cL_parts 488 = .ok (.iadd, 1) := by decide +kernel
theorem dL_parts_489 : decode cL_parts 489 = .ok (.if_icmp .ge 22, 3) := by decide +kernel
theorem dL_parts_492 : decode cL_parts 492 = .ok (.aload_n 0, 1) := by decide +kernel
theorem dL_parts_493 : decode cL_parts 493 = .ok (.iload 8, 2) := by decide +kernel
theorem dL_parts_495 : decode cL_parts 495 = .ok (.invokestatic 215, 3) := by decide +kernel
theorem dL_parts_498 : decode cL_parts 498 = .ok (.iload 5, 2) := by decide +kernel
theorem dL_parts_500 : decode cL_parts 500 = .ok (.if_icmp .eq 5, 3) := by decide +kernel
theorem dL_parts_503 : decode cL_parts 503 = .ok (.iconst 0, 1) := by decide +kernel
theorem dL_parts_504 : decode cL_parts 504 = .ok (.ireturn, 1) := by decide +kernel
theorem dL_parts_505 : decode cL_parts 505 = .ok (.iinc 8 1, 3) := by decide +kernel
theorem dL_parts_508 : decode cL_parts 508 = .ok (.goto (-34), 3) := by decide +kernel
theorem dL_parts_511 : decode cL_parts 511 = .ok (.iinc 5 1, 3) := by decide +kernel
theorem dL_parts_514 : decode cL_parts 514 = .ok (.goto (-180), 3) := by decide +kernel
theorem dL_parts_517 : decode cL_parts 517 = .ok (.aload_n 0, 1) := by decide +kernel
theorem dL_parts_518 : decode cL_parts 518 = .ok (.iconst 1, 1) := by decide +kernel
theorem dL_parts_519 : decode cL_parts 519 = .ok (.invokevirtual 147, 3) := by decide +kernel
theorem dL_parts_522 : decode cL_parts 522 = .ok (.iload_n 2, 1) := by decide +kernel
theorem dL_parts_523 : decode cL_parts 523 = .ok (.if_icmp .ne 90, 3) := by decide +kernel
theorem dL_parts_526 : decode cL_parts 526 = .ok (.aload_n 0, 1) := by decide +kernel
theorem dL_parts_527 : decode cL_parts 527 = .ok (.iconst 2, 1) := by decide +kernel
theorem dL_parts_528 : decode cL_parts 528 = .ok (.invokevirtual 147, 3) := by decide +kernel
theorem dL_parts_531 : decode cL_parts 531 = .ok (.iload 4, 2) := by decide +kernel
theorem dL_parts_533 : decode cL_parts 533 = .ok (.if_icmp .ne 80, 3) := by decide +kernel
theorem dL_parts_536 : decode cL_parts 536 = .ok (.aload_n 0, 1) := by decide +kernel
theorem dL_parts_537 : decode cL_parts 537 = .ok (.bipush 6, 2) := by decide +kernel
theorem dL_parts_539 : decode cL_parts 539 = .ok (.invokevirtual 147, 3) := by decide +kernel
theorem dL_parts_542 : decode cL_parts 542 = .ok (.iload_n 3, 1) := by decide +kernel
theorem dL_parts_543 : decode cL_parts 543 = .ok (.if_icmp .ne 70, 3) := by decide +kernel
theorem dL_parts_546 : decode cL_parts 546 = .ok (.aload_n 0, 1) := by decide +kernel
theorem dL_parts_547 : decode cL_parts 547 = .ok (.iload 4, 2) := by decide +kernel
theorem dL_parts_549 : decode cL_parts 549 = .ok (.invokestatic 215, 3) := by decide +kernel
theorem dL_parts_552 : decode cL_parts 552 = .ok (.bipush (-13), 2) := by decide +kernel
theorem dL_parts_554 : decode cL_parts 554 = .ok (.if_icmp .ne 59, 3) := by decide +kernel
theorem dL_parts_557 : decode cL_parts 557 = .ok (.aload_n 0, 1) := by decide +kernel
theorem dL_parts_558 : decode cL_parts 558 = .ok (.iconst (-1), 1) := by decide +kernel
theorem dL_parts_559 : decode cL_parts 559 = .ok (.invokestatic 215, 3) := by decide +kernel
theorem dL_parts_562 : decode cL_parts 562 = .ok (.bipush (-13), 2) := by decide +kernel
theorem dL_parts_564 : decode cL_parts 564 = .ok (.if_icmp .ne 49, 3) := by decide +kernel
theorem dL_parts_567 : decode cL_parts 567 = .ok (.aload_n 0, 1) := by decide +kernel
theorem dL_parts_568 : decode cL_parts 568 = .ok (.aload_n 0, 1) := by decide +kernel
theorem dL_parts_569 : decode cL_parts 569 = .ok (.iconst 0, 1) := by decide +kernel
theorem dL_parts_570 : decode cL_parts 570 = .ok (.invokevirtual 147, 3) := by decide +kernel
theorem dL_parts_573 : decode cL_parts 573 = .ok (.bipush 9, 2) := by decide +kernel
theorem dL_parts_575 : decode cL_parts 575 = .ok (.invokestatic 159, 3) := by decide +kernel
theorem dL_parts_578 : decode cL_parts 578 = .ok (.bipush (-11), 2) := by decide +kernel
theorem dL_parts_580 : decode cL_parts 580 = .ok (.if_icmp .ne 33, 3) := by decide +kernel
theorem dL_parts_583 : decode cL_parts 583 = .ok (.aload_n 0, 1) := by decide +kernel
theorem dL_parts_584 : decode cL_parts 584 = .ok (.aload_n 1, 1) := by decide +kernel
theorem dL_parts_585 : decode cL_parts 585 = .ok (.arraylength, 1) := by decide +kernel
theorem dL_parts_586 : decode cL_parts 586 = .ok (.bipush 9, 2) := by decide +kernel
theorem dL_parts_588 : decode cL_parts 588 = .ok (.invokestatic 154, 3) := by decide +kernel
theorem dL_parts_591 : decode cL_parts 591 = .ok (.bipush (-11), 2) := by decide +kernel
theorem dL_parts_593 : decode cL_parts 593 = .ok (.if_icmp .ne 20, 3) := by decide +kernel
theorem dL_parts_596 : decode cL_parts 596 = .ok (.aload_n 0, 1) := by decide +kernel
theorem dL_parts_597 : decode cL_parts 597 = .ok (.iconst (-1), 1) := by decide +kernel
theorem dL_parts_598 : decode cL_parts 598 = .ok (.iconst 0, 1) := by decide +kernel
theorem dL_parts_599 : decode cL_parts 599 = .ok (.bipush 9, 2) := by decide +kernel
theorem dL_parts_601 : decode cL_parts 601 = .ok (.invokestatic 212, 3) := by decide +kernel
theorem dL_parts_604 : decode cL_parts 604 = .ok (.bipush (-11), 2) := by decide +kernel
theorem dL_parts_606 : decode cL_parts 606 = .ok (.if_icmp .ne 7, 3) := by decide +kernel
theorem dL_parts_609 : decode cL_parts 609 = .ok (.iconst 1, 1) := by decide +kernel
theorem dL_parts_610 : decode cL_parts 610 = .ok (.goto 4, 3) := by decide +kernel
theorem dL_parts_613 : decode cL_parts 613 = .ok (.iconst 0, 1) := by decide +kernel
theorem dL_parts_614 : decode cL_parts 614 = .ok (.ireturn, 1) := by decide +kernel
theorem dL_faulty_0 : decode cL_faulty 0 = .ok (.aload_n 0, 1) := by decide +kernel
theorem dL_faulty_1 : decode cL_faulty 1 = .ok (.invokestatic 202, 3) := by decide +kernel
theorem dL_faulty_4 : decode cL_faulty 4 = .ok (.astore_n 1, 1) := by decide +kernel
theorem dL_faulty_5 : decode cL_faulty 5 = .ok (.iconst 1, 1) := by decide +kernel
theorem dL_faulty_6 : decode cL_faulty 6 = .ok (.istore_n 2, 1) := by decide +kernel
theorem dL_faulty_7 : decode cL_faulty 7 = .ok (.iload_n 2, 1) := by decide +kernel
theorem dL_faulty_8 : decode cL_faulty 8 = .ok (.iconst 5, 1) := by decide +kernel
theorem dL_faulty_9 : decode cL_faulty 9 = .ok (.if_icmp .ge 102, 3) := by decide +kernel
theorem dL_faulty_12 : decode cL_faulty 12 = .ok (.aload_n 0, 1) := by decide +kernel
theorem dL_faulty_13 : decode cL_faulty 13 = .ok (.aload_n 1, 1) := by decide +kernel
theorem dL_faulty_14 : decode cL_faulty 14 = .ok (.iload_n 2, 1) := by decide +kernel
theorem dL_faulty_15 : decode cL_faulty 15 = .ok (.invokestatic 174, 3) := by decide +kernel
theorem dL_faulty_18 : decode cL_faulty 18 = .ok (.istore_n 3, 1) := by decide +kernel
theorem dL_faulty_19 : decode cL_faulty 19 = .ok (.bipush (-13), 2) := by decide +kernel
theorem dL_faulty_21 : decode cL_faulty 21 = .ok (.istore 4, 2) := by decide +kernel
theorem dL_faulty_23 : decode cL_faulty 23 = .ok (.iload_n 2, 1) := by decide +kernel
theorem dL_faulty_24 : decode cL_faulty 24 = .ok (.iconst 3, 1) := by decide +kernel
theorem dL_faulty_25 : decode cL_faulty 25 = .ok (.if_icmp .ne 11, 3) := by decide +kernel
theorem dL_faulty_28 : decode cL_faulty 28 = .ok (.aload_n 0, 1) := by decide +kernel
theorem dL_faulty_29 : decode cL_faulty 29 = .ok (.iconst 0, 1) := by decide +kernel
theorem dL_faulty_30 : decode cL_faulty 30 = .ok (.invokevirtual 147, 3) := by decide +kernel
theorem dL_faulty_33 : decode cL_faulty 33 = .ok (.goto 5, 3) := by decide +kernel
theorem dL_faulty_36 : decode cL_faulty 36 = .ok (.aload_n 1, 1) := by decide +kernel
theorem dL_faulty_37 : decode cL_faulty 37 = .ok (.arraylength, 1) := by decide +kernel
theorem dL_faulty_38 : decode cL_faulty 38 = .ok (.iconst 1, 1) := by decide +kernel
theorem dL_faulty_39 : decode cL_faulty 39 = .ok (.isub, 1) := by decide +kernel
theorem dL_faulty_40 : decode cL_faulty 40 = .ok (.istore 5, 2) := by decide +kernel
theorem dL_faulty_42 : decode cL_faulty 42 = .ok (.iload 5, 2) := by decide +kernel
theorem dL_faulty_44 : decode cL_faulty 44 = .ok (.ifCond .lt 29, 3) := by decide +kernel
theorem dL_faulty_47 : decode cL_faulty 47 = .ok (.aload_n 0, 1) := by decide +kernel
theorem dL_faulty_48 : decode cL_faulty 48 = .ok (.aload_n 1, 1) := by decide +kernel
theorem dL_faulty_49 : decode cL_faulty 49 = .ok (.iload_n 2, 1) := by decide +kernel
theorem dL_faulty_50 : decode cL_faulty 50 = .ok (.iload 5, 2) := by decide +kernel
theorem dL_faulty_52 : decode cL_faulty 52 = .ok (.invokestatic 170, 3) := by decide +kernel
theorem dL_faulty_55 : decode cL_faulty 55 = .ok (.ifCond .eq 8, 3) := by decide +kernel
theorem dL_faulty_58 : decode cL_faulty 58 = .ok (.iload 5, 2) := by decide +kernel
theorem dL_faulty_60 : decode cL_faulty 60 = .ok (.goto 5, 3) := by decide +kernel
theorem dL_faulty_63 : decode cL_faulty 63 = .ok (.iload 4, 2) := by decide +kernel
theorem dL_faulty_65 : decode cL_faulty 65 = .ok (.istore 4, 2) := by decide +kernel
theorem dL_faulty_67 : decode cL_faulty 67 = .ok (.iinc 5 (-1), 3) := by decide +kernel
theorem dL_faulty_70 : decode cL_faulty 70 = .ok (.goto (-28), 3) := by decide +kernel
theorem dL_faulty_73 : decode cL_faulty 73 = .ok (.aload_n 0, 1) := by decide +kernel
theorem dL_faulty_74 : decode cL_faulty 74 = .ok (.iload_n 2, 1) := by decide +kernel
theorem dL_faulty_75 : decode cL_faulty 75 = .ok (.iconst 0, 1) := by decide +kernel
theorem dL_faulty_76 : decode cL_faulty 76 = .ok (.invokestatic 217, 3) := by decide +kernel
theorem dL_faulty_79 : decode cL_faulty 79 = .ok (.iload_n 3, 1) := by decide +kernel
theorem dL_faulty_80 : decode cL_faulty 80 = .ok (.if_icmp .ne 23, 3) := by decide +kernel
theorem dL_faulty_83 : decode cL_faulty 83 = .ok (.aload_n 0, 1) := by decide +kernel
theorem dL_faulty_84 : decode cL_faulty 84 = .ok (.iload_n 2, 1) := by decide +kernel
theorem dL_faulty_85 : decode cL_faulty 85 = .ok (.iconst 1, 1) := by decide +kernel
theorem dL_faulty_86 : decode cL_faulty 86 = .ok (.invokestatic 217, 3) := by decide +kernel
theorem dL_faulty_89 : decode cL_faulty 89 = .ok (.iload_n 3, 1) := by decide +kernel
theorem dL_faulty_90 : decode cL_faulty 90 = .ok (.if_icmp .ne 13, 3) := by decide +kernel
theorem dL_faulty_93 : decode cL_faulty 93 = .ok (.aload_n 0, 1) := by decide +kernel
theorem dL_faulty_94 : decode cL_faulty 94 = .ok (.iload_n 2, 1) := by decide +kernel
theorem dL_faulty_95 : decode cL_faulty 95 = .ok (.invokestatic 220, 3) := by decide +kernel
theorem dL_faulty_98 : decode cL_faulty 98 = .ok (.iload 4, 2) := by decide +kernel
theorem dL_faulty_100 : decode cL_faulty 100 = .ok (.if_icmp .eq 5, 3) := by decide +kernel
theorem dL_faulty_103 : decode cL_faulty 103 = .ok (.iconst 0, 1) := by decide +kernel
theorem dL_faulty_104 : decode cL_faulty 104 = .ok (.ireturn, 1) := by decide +kernel
theorem dL_faulty_105 : decode cL_faulty 105 = .ok (.iinc 2 1, 3) := by decide +kernel
theorem dL_faulty_108 : decode cL_faulty 108 = .ok (.goto (-101), 3) := by decide +kernel
theorem dL_faulty_111 : decode cL_faulty 111 = .ok (.iconst 0, 1) := by decide +kernel
theorem dL_faulty_112 : decode cL_faulty 112 = .ok (.istore_n 2, 1) := by decide +kernel
theorem dL_faulty_113 : decode cL_faulty 113 = .ok (.iload_n 2, 1) := by decide +kernel
theorem dL_faulty_114 : decode cL_faulty 114 = .ok (.aload_n 1, 1) := by decide +kernel
theorem dL_faulty_115 : decode cL_faulty 115 = .ok (.arraylength, 1) := by decide +kernel
theorem dL_faulty_116 : decode cL_faulty 116 = .ok (.if_icmp .ge 183, 3) := by decide +kernel
theorem dL_faulty_119 : decode cL_faulty 119 = .ok (.aload_n 1, 1) := by decide +kernel
theorem dL_faulty_120 : decode cL_faulty 120 = .ok (.iload_n 2, 1) := by decide +kernel
theorem dL_faulty_121 : decode cL_faulty 121 = .ok (.aaload, 1) := by decide +kernel
theorem dL_faulty_122 : decode cL_faulty 122 = .ok (.iconst 3, 1) := by decide +kernel
theorem dL_faulty_123 : decode cL_faulty 123 = .ok (.iaload, 1) := by decide +kernel
theorem dL_faulty_124 : decode cL_faulty 124 = .ok (.istore_n 3, 1) := by decide +kernel
theorem dL_faulty_125 : decode cL_faulty 125 = .ok (.iconst (-1), 1) := by decide +kernel
theorem dL_faulty_126 : decode cL_faulty 126 = .ok (.istore 4, 2) := by decide +kernel
theorem dL_faulty_128 : decode cL_faulty 128 = .ok (.iconst 0, 1) := by decide +kernel
theorem dL_faulty_129 : decode cL_faulty 129 = .ok (.istore 5, 2) := by decide +kernel
theorem dL_faulty_131 : decode cL_faulty 131 = .ok (.iconst 0, 1) := by decide +kernel
theorem dL_faulty_132 : decode cL_faulty 132 = .ok (.istore 6, 2) := by decide +kernel
theorem dL_faulty_134 : decode cL_faulty 134 = .ok (.iload 6, 2) := by decide +kernel
theorem dL_faulty_136 : decode cL_faulty 136 = .ok (.bipush 10, 2) := by decide +kernel
theorem dL_faulty_138 : decode cL_faulty 138 = .ok (.if_icmp .ge 105, 3) := by decide +kernel
theorem dL_faulty_141 : decode cL_faulty 141 = .ok (.aload_n 1, 1) := by decide +kernel
theorem dL_faulty_142 : decode cL_faulty 142 = .ok (.iload_n 2, 1) := by decide +kernel
theorem dL_faulty_143 : decode cL_faulty 143 = .ok (.aaload, 1) := by decide +kernel
theorem dL_faulty_144 : decode cL_faulty 144 = .ok (.iconst 3, 1) := by decide +kernel
theorem dL_faulty_145 : decode cL_faulty 145 = .ok (.iload_n 3, 1) := by decide +kernel
theorem dL_faulty_146 : decode cL_faulty 146 = .ok (.ifCond .ge 7, 3) := by decide +kernel
theorem dL_faulty_149 : decode cL_faulty 149 = .ok (.iconst (-1), 1) := by decide +kernel
theorem dL_faulty_150 : decode cL_faulty 150 = .ok (.goto 19, 3) := by decide +kernel
theorem dL_faulty_153 : decode cL_faulty 153 = .ok (.aload_n 0, 1) := by decide +kernel
theorem dL_faulty_154 : decode cL_faulty 154 = .ok (.aload_n 1, 1) := by decide +kernel
theorem dL_faulty_155 : decode cL_faulty 155 = .ok (.iload_n 2, 1) := by decide +kernel
theorem dL_faulty_156 : decode cL_faulty 156 = .ok (.aaload, 1) := by decide +kernel
theorem dL_faulty_157 : decode cL_faulty 157 = .ok (.iconst 0, 1) := by decide +kernel
theorem dL_faulty_158 : decode cL_faulty 158 = .ok (.iaload, 1) := by decide +kernel
theorem dL_faulty_159 : decode cL_faulty 159 = .ok (.iconst 0, 1) := by decide +kernel
theorem dL_faulty_160 : decode cL_faulty 160 = .ok (.invokestatic 157, 3) := by decide +kernel
theorem dL_faulty_163 : decode cL_faulty 163 = .ok (.iload 6, 2) := by decide +kernel
theorem dL_faulty_165 : decode cL_faulty 165 = .ok (.iadd, 1) := by decide +kernel
theorem dL_faulty_166 : decode cL_faulty 166 = .ok (.bipush 12, 2) := by decide +kernel
theorem dL_faulty_168 : decode cL_faulty 168 = .ok (.irem, 1) := by decide +kernel
theorem dL_faulty_169 : decode cL_faulty 169 = .ok (.iastore, 1) := by decide +kernel
theorem dL_faulty_170 : decode cL_faulty 170 = .ok (.aload_n 0, 1) := by decide +kernel
theorem dL_faulty_171 : decode cL_faulty 171 = .ok (.aload_n 1, 1) := by decide +kernel
theorem dL_faulty_172 : decode cL_faulty 172 = .ok (.invokestatic 222, 3) := by decide +kernel
theorem dL_faulty_175 : decode cL_faulty 175 = .ok (.istore 7, 2) := by decide +kernel
theorem dL_faulty_177 : decode cL_faulty 177 = .ok (.iload 4, 2) := by decide +kernel
theorem dL_faulty_179 : decode cL_faulty 179 = .ok (.ifCond .lt 10, 3) := by decide +kernel
theorem dL_faulty_182 : decode cL_faulty 182 = .ok (.iload 7, 2) := by decide +kernel
theorem dL_faulty_184 : decode cL_faulty 184 = .ok (.iload 5, 2) := by decide +kernel
theorem dL_faulty_186 : decode cL_faulty 186 = .ok (.if_icmp .ge 8, 3) := by decide +kernel
theorem dL_faulty_189 : decode cL_faulty 189 = .ok (.iload 6, 2) := by decide +kernel
theorem dL_faulty_191 : decode cL_faulty 191 = .ok (.goto 5, 3) := by decide +kernel
theorem dL_faulty_194 : decode cL_faulty 194 = .ok (.iload 4, 2) := by decide +kernel
theorem dL_faulty_196 : decode cL_faulty 196 = .ok (.istore 4, 2) := by decide +kernel
theorem dL_faulty_198 : decode cL_faulty 198 = .ok (.iload 4, 2) := by decide +kernel
theorem dL_faulty_200 : decode cL_faulty 200 = .ok (.iload 6, 2) := by decide +kernel
theorem dL_faulty_202 : decode cL_faulty 202 = .ok (.if_icmp .ne 8, 3) := by decide +kernel
theorem dL_faulty_205 : decode cL_faulty 205 = .ok (.iload 7, 2) := by decide +kernel
theorem dL_faulty_207 : decode cL_faulty 207 = .ok (.goto 5, 3) := by decide +kernel
theorem dL_faulty_210 : decode cL_faulty 210 = .ok (.iload 5, 2) := by decide +kernel
theorem dL_faulty_212 : decode cL_faulty 212 = .ok (.istore 5, 2) := by decide +kernel
theorem dL_faulty_214 : decode cL_faulty 214 = .ok (.aload_n 0, 1) := by decide +kernel
theorem dL_faulty_215 : decode cL_faulty 215 = .ok (.iload_n 2, 1) := by decide +kernel
theorem dL_faulty_216 : decode cL_faulty 216 = .ok (.iload 6, 2) := by decide +kernel
theorem dL_faulty_218 : decode cL_faulty 218 = .ok (.invokestatic 226, 3) := by decide +kernel
theorem dL_faulty_221 : decode cL_faulty 221 = .ok (.iload_n 3, 1) := by decide +kernel
theorem dL_faulty_222 : decode cL_faulty 222 = .ok (.ifCond .ge 8, 3) := by decide +kernel
theorem dL_faulty_225 : decode cL_faulty 225 = .ok (.bipush (-13), 2) := by decide +kernel
theorem dL_faulty_227 : decode cL_faulty 227 = .ok (.goto 5, 3) := by decide +kernel
theorem dL_faulty_230 : decode cL_faulty 230 = .ok (.iload 7, 2) := by decide +kernel
theorem dL_faulty_232 : decode cL_faulty 232 = .ok (.if_icmp .eq 5, 3) := by decide +kernel
theorem dL_faulty_235 : decode cL_faulty 235 = .ok (.iconst 0, 1) := by decide +kernel
theorem dL_faulty_236 : decode cL_faulty 236 = .ok (.ireturn, 1) := by decide +kernel
theorem dL_faulty_237 : decode cL_faulty 237 = .ok (.iinc 6 1, 3) := by decide +kernel
theorem dL_faulty_240 : decode cL_faulty 240 = .ok (.goto (-106), 3) := by decide +kernel
theorem dL_faulty_243 : decode cL_faulty 243 = .ok (.aload_n 1, 1) := by decide +kernel
theorem dL_faulty_244 : decode cL_faulty 244 = .ok (.iload_n 2, 1) := by decide +kernel
theorem dL_faulty_245 : decode cL_faulty 245 = .ok (.aaload, 1) := by decide +kernel
theorem dL_faulty_246 : decode cL_faulty 246 = .ok (.iconst 3, 1) := by decide +kernel
theorem dL_faulty_247 : decode cL_faulty 247 = .ok (.iload_n 3, 1) := by decide +kernel
theorem dL_faulty_248 : decode cL_faulty 248 = .ok (.iastore, 1) := by decide +kernel
theorem dL_faulty_249 : decode cL_faulty 249 = .ok (.aload_n 0, 1) := by decide +kernel
theorem dL_faulty_250 : decode cL_faulty 250 = .ok (.iload_n 2, 1) := by decide +kernel
theorem dL_faulty_251 : decode cL_faulty 251 = .ok (.invokestatic 228, 3) := by decide +kernel
theorem dL_faulty_254 : decode cL_faulty 254 = .ok (.iload_n 3, 1) := by decide +kernel
theorem dL_faulty_255 : decode cL_faulty 255 = .ok (.ifCond .ge 8, 3) := by decide +kernel
theorem dL_faulty_258 : decode cL_faulty 258 = .ok (.bipush (-13), 2) := by decide +kernel
theorem dL_faulty_260 : decode cL_faulty 260 = .ok (.goto 5, 3) := by decide +kernel
theorem dL_faulty_263 : decode cL_faulty 263 = .ok (.iload 4, 2) := by decide +kernel
theorem dL_faulty_265 : decode cL_faulty 265 = .ok (.if_icmp .ne 26, 3) := by decide +kernel
theorem dL_faulty_268 : decode cL_faulty 268 = .ok (.aload_n 0, 1) := by decide +kernel
theorem dL_faulty_269 : decode cL_faulty 269 = .ok (.iload_n 2, 1) := by decide +kernel
theorem dL_faulty_270 : decode cL_faulty 270 = .ok (.bipush 10, 2) := by decide +kernel
theorem dL_faulty_272 : decode cL_faulty 272 = .ok (.invokestatic 226, 3) := by decide +kernel
theorem dL_faulty_275 : decode cL_faulty 275 = .ok (.bipush (-12), 2) := by decide +kernel
theorem dL_faulty_277 : decode cL_faulty 277 = .ok (.if_icmp .ne 14, 3) := by decide +kernel
theorem dL_faulty_280 : decode cL_faulty 280 = .ok (.aload_n 0, 1) := by decide +kernel
theorem dL_faulty_281 : decode cL_faulty 281 = .ok (.iload_n 2, 1) := by decide +kernel
theorem dL_faulty_282 : decode cL_faulty 282 = .ok (.iconst (-1), 1) := by decide +kernel
theorem dL_faulty_283 : decode cL_faulty 283 = .ok (.invokestatic 226, 3) := by decide +kernel
theorem dL_faulty_286 : decode cL_faulty 286 = .ok (.bipush (-12), 2) := by decide +kernel
theorem dL_faulty_288 : decode cL_faulty 288 = .ok (.if_icmp .eq 5, 3) := by decide +kernel
theorem dL_faulty_291 : decode cL_faulty 291 = .ok (.iconst 0, 1) := by decide +kernel
theorem dL_faulty_292 : decode cL_faulty 292 = .ok (.ireturn, 1) := by decide +kernel
theorem dL_faulty_293 : decode cL_faulty 293 = .ok (.iinc 2 1, 3) := by decide +kernel
theorem dL_faulty_296 : decode cL_faulty 296 = .ok (.goto (-183), 3) := by decide +kernel
theorem dL_faulty_299 : decode cL_faulty 299 = .ok (.aload_n 0, 1) := by decide +kernel
theorem dL_faulty_300 : decode cL_faulty 300 = .ok (.invokevirtual 230, 3) := by decide +kernel
theorem dL_faulty_303 : decode cL_faulty 303 = .ok (.aload_n 0, 1) := by decide +kernel
theorem dL_faulty_304 : decode cL_faulty 304 = .ok (.aload_n 1, 1) := by decide +kernel
theorem dL_faulty_305 : decode cL_faulty 305 = .ok (.invokestatic 222, 3) := by decide +kernel
theorem dL_faulty_308 : decode cL_faulty 308 = .ok (.ifCond .ne 7, 3) := by decide +kernel
theorem dL_faulty_311 : decode cL_faulty 311 = .ok (.iconst 1, 1) := by decide +kernel
theorem dL_faulty_312 : decode cL_faulty 312 = .ok (.goto 4, 3) := by decide +kernel
theorem dL_faulty_315 : decode cL_faulty 315 = .ok (.iconst 0, 1) := by decide +kernel
theorem dL_faulty_316 : decode cL_faulty 316 = .ok (.if_icmp .ne 69, 3) := by decide +kernel
theorem dL_faulty_319 : decode cL_faulty 319 = .ok (.aload_n 0, 1) := by decide +kernel
theorem dL_faulty_320 : decode cL_faulty 320 = .ok (.iconst 0, 1) := by decide +kernel
theorem dL_faulty_321 : decode cL_faulty 321 = .ok (.iconst 1, 1) := by decide +kernel
theorem dL_faulty_322 : decode cL_faulty 322 = .ok (.invokestatic 217, 3) := by decide +kernel
theorem dL_faulty_325 : decode cL_faulty 325 = .ok (.bipush (-12), 2) := by decide +kernel
theorem dL_faulty_327 : decode cL_faulty 327 = .ok (.if_icmp .ne 58, 3) := by decide +kernel
theorem dL_faulty_330 : decode cL_faulty 330 = .ok (.aload_n 0, 1) := by decide +kernel
theorem dL_faulty_331 : decode cL_faulty 331 = .ok (.iconst 5, 1) := by decide +kernel
theorem dL_faulty_332 : decode cL_faulty 332 = .ok (.iconst 0, 1) := by decide +kernel
theorem dL_faulty_333 : decode cL_faulty 333 = .ok (.invokestatic 217, 3) := by decide +kernel
theorem dL_faulty_336 : decode cL_faulty 336 = .ok (.bipush (-12), 2) := by decide +kernel
theorem dL_faulty_338 : decode cL_faulty 338 = .ok (.if_icmp .ne 47, 3) := by decide +kernel
theorem dL_faulty_341 : decode cL_faulty 341 = .ok (.aload_n 0, 1) := by decide +kernel
theorem dL_faulty_342 : decode cL_faulty 342 = .ok (.iconst 0, 1) := by decide +kernel
theorem dL_faulty_343 : decode cL_faulty 343 = .ok (.invokestatic 220, 3) := by decide +kernel
theorem dL_faulty_346 : decode cL_faulty 346 = .ok (.bipush (-12), 2) := by decide +kernel
theorem dL_faulty_348 : decode cL_faulty 348 = .ok (.if_icmp .ne 37, 3) := by decide +kernel
theorem dL_faulty_351 : decode cL_faulty 351 = .ok (.aload_n 0, 1) := by decide +kernel
theorem dL_faulty_352 : decode cL_faulty 352 = .ok (.aload_n 1, 1) := by decide +kernel
theorem dL_faulty_353 : decode cL_faulty 353 = .ok (.arraylength, 1) := by decide +kernel
theorem dL_faulty_354 : decode cL_faulty 354 = .ok (.bipush 10, 2) := by decide +kernel
theorem dL_faulty_356 : decode cL_faulty 356 = .ok (.invokestatic 226, 3) := by decide +kernel
theorem dL_faulty_359 : decode cL_faulty 359 = .ok (.bipush (-11), 2) := by decide +kernel
theorem dL_faulty_361 : decode cL_faulty 361 = .ok (.if_icmp .ne 24, 3) := by decide +kernel
theorem dL_faulty_364 : decode cL_faulty 364 = .ok (.aload_n 0, 1) := by decide +kernel
theorem dL_faulty_365 : decode cL_faulty 365 = .ok (.iconst (-1), 1) := by decide +kernel
theorem dL_faulty_366 : decode cL_faulty 366 = .ok (.invokestatic 228, 3) := by decide +kernel
theorem dL_faulty_369 : decode cL_faulty 369 = .ok (.bipush (-11), 2) := by decide +kernel
theorem dL_faulty_371 : decode cL_faulty 371 = .ok (.if_icmp .ne 14, 3) := by decide +kernel
theorem dL_faulty_374 : decode cL_faulty 374 = .ok (.aload_n 0, 1) := by decide +kernel
theorem dL_faulty_375 : decode cL_faulty 375 = .ok (.invokevirtual 234, 3) := by decide +kernel
theorem dL_faulty_378 : decode cL_faulty 378 = .ok (.ifCond .eq 7, 3) := by decide +kernel
theorem dL_faulty_381 : decode cL_faulty 381 = .ok (.iconst 1, 1) := by decide +kernel
theorem dL_faulty_382 : decode cL_faulty 382 = .ok (.goto 4, 3) := by decide +kernel
theorem dL_faulty_385 : decode cL_faulty 385 = .ok (.iconst 0, 1) := by decide +kernel
theorem dL_faulty_386 : decode cL_faulty 386 = .ok (.ireturn, 1) := by decide +kernel
theorem dL_tunes_0 : decode cL_tunes 0 = .ok (.iconst 0, 1) := by decide +kernel
theorem dL_tunes_1 : decode cL_tunes 1 = .ok (.istore_n 1, 1) := by decide +kernel
theorem dL_tunes_2 : decode cL_tunes 2 = .ok (.iconst 0, 1) := by decide +kernel
theorem dL_tunes_3 : decode cL_tunes 3 = .ok (.istore_n 2, 1) := by decide +kernel
theorem dL_tunes_4 : decode cL_tunes 4 = .ok (.iconst 0, 1) := by decide +kernel
theorem dL_tunes_5 : decode cL_tunes 5 = .ok (.istore_n 3, 1) := by decide +kernel
theorem dL_tunes_6 : decode cL_tunes 6 = .ok (.bipush 12, 2) := by decide +kernel
theorem dL_tunes_8 : decode cL_tunes 8 = .ok (.istore 4, 2) := by decide +kernel
theorem dL_tunes_10 : decode cL_tunes 10 = .ok (.iconst (-1), 1) := by decide +kernel
theorem dL_tunes_11 : decode cL_tunes 11 = .ok (.istore 5, 2) := by decide +kernel
theorem dL_tunes_13 : decode cL_tunes 13 = .ok (.iconst (-1), 1) := by decide +kernel
theorem dL_tunes_14 : decode cL_tunes 14 = .ok (.istore 6, 2) := by decide +kernel
theorem dL_tunes_16 : decode cL_tunes 16 = .ok (.bipush 12, 2) := by decide +kernel
theorem dL_tunes_18 : decode cL_tunes 18 = .ok (.newarray .int, 2) := by decide +kernel
theorem dL_tunes_20 : decode cL_tunes 20 = .ok (.astore 7, 2) := by decide +kernel
theorem dL_tunes_22 : decode cL_tunes 22 = .ok (.iconst 0, 1) := by decide +kernel
theorem dL_tunes_23 : decode cL_tunes 23 = .ok (.istore 8, 2) := by decide +kernel
theorem dL_tunes_25 : decode cL_tunes 25 = .ok (.iconst 0, 1) := by decide +kernel
theorem dL_tunes_26 : decode cL_tunes 26 = .ok (.istore 9, 2) := by decide +kernel
theorem dL_tunes_28 : decode cL_tunes 28 = .ok (.aload_n 0, 1) := by decide +kernel
theorem dL_tunes_29 : decode cL_tunes 29 = .ok (.invokestatic 202, 3) := by decide +kernel
theorem dL_tunes_32 : decode cL_tunes 32 = .ok (.astore 10, 2) := by decide +kernel
theorem dL_tunes_34 : decode cL_tunes 34 = .ok (.aload 10, 2) := by decide +kernel
theorem dL_tunes_36 : decode cL_tunes 36 = .ok (.arraylength, 1) := by decide +kernel
theorem dL_tunes_37 : decode cL_tunes 37 = .ok (.istore 11, 2) := by decide +kernel
theorem dL_tunes_39 : decode cL_tunes 39 = .ok (.iconst 0, 1) := by decide +kernel
theorem dL_tunes_40 : decode cL_tunes 40 = .ok (.istore 12, 2) := by decide +kernel
theorem dL_tunes_42 : decode cL_tunes 42 = .ok (.iload 12, 2) := by decide +kernel
theorem dL_tunes_44 : decode cL_tunes 44 = .ok (.iload 11, 2) := by decide +kernel
theorem dL_tunes_46 : decode cL_tunes 46 = .ok (.if_icmp .ge 126, 3) := by decide +kernel
theorem dL_tunes_49 : decode cL_tunes 49 = .ok (.aload 10, 2) := by decide +kernel
theorem dL_tunes_51 : decode cL_tunes 51 = .ok (.iload 12, 2) := by decide +kernel
theorem dL_tunes_53 : decode cL_tunes 53 = .ok (.aaload, 1) := by decide +kernel
theorem dL_tunes_54 : decode cL_tunes 54 = .ok (.astore 13, 2) := by decide +kernel
theorem dL_tunes_56 : decode cL_tunes 56 = .ok (.aload 13, 2) := by decide +kernel
theorem dL_tunes_58 : decode cL_tunes 58 = .ok (.iconst 3, 1) := by decide +kernel
theorem dL_tunes_59 : decode cL_tunes 59 = .ok (.iaload, 1) := by decide +kernel
theorem dL_tunes_60 : decode cL_tunes 60 = .ok (.ifCond .lt 106, 3) := by decide +kernel
theorem dL_tunes_63 : decode cL_tunes 63 = .ok (.iload 6, 2) := by decide +kernel
theorem dL_tunes_65 : decode cL_tunes 65 = .ok (.ifCond .ge 7, 3) := by decide +kernel
theorem dL_tunes_68 : decode cL_tunes 68 = .ok (.iconst 0, 1) := by decide +kernel
theorem dL_tunes_69 : decode cL_tunes 69 = .ok (.goto 10, 3) := by decide +kernel
theorem dL_tunes_72 : decode cL_tunes 72 = .ok (.aload 13, 2) := by decide +kernel
theorem dL_tunes_74 : decode cL_tunes 74 = .ok (.iconst 3, 1) := by decide +kernel
theorem dL_tunes_75 : decode cL_tunes 75 = .ok (.iaload, 1) := by decide +kernel
theorem dL_tunes_76 : decode cL_tunes 76 = .ok (.iload 6, 2) := by decide +kernel
theorem dL_tunes_78 : decode cL_tunes 78 = .ok (.isub, 1) := by decide +kernel
theorem dL_tunes_79 : decode cL_tunes 79 = .ok (.istore 14, 2) := by decide +kernel
theorem dL_tunes_81 : decode cL_tunes 81 = .ok (.iload_n 1, 1) := by decide +kernel
theorem dL_tunes_82 : decode cL_tunes 82 = .ok (.iload 14, 2) := by decide +kernel
theorem dL_tunes_84 : decode cL_tunes 84 = .ok (.invokestatic 165, 3) := by decide +kernel
theorem dL_tunes_87 : decode cL_tunes 87 = .ok (.iadd, 1) := by decide +kernel
theorem dL_tunes_88 : decode cL_tunes 88 = .ok (.istore_n 1, 1) := by decide +kernel
theorem dL_tunes_89 : decode cL_tunes 89 = .ok (.iload_n 2, 1) := by decide +kernel
theorem dL_tunes_90 : decode cL_tunes 90 = .ok (.iload 14, 2) := by decide +kernel
theorem dL_tunes_92 : decode cL_tunes 92 = .ok (.ifCond .le 7, 3) := by decide +kernel
theorem dL_tunes_95 : decode cL_tunes 95 = .ok (.iconst 1, 1) := by decide +kernel
theorem dL_tunes_96 : decode cL_tunes 96 = .ok (.goto 4, 3) := by decide +kernel
theorem dL_tunes_99 : decode cL_tunes 99 = .ok (.iconst 0, 1) := by decide +kernel
theorem dL_tunes_100 : decode cL_tunes 100 = .ok (.iadd, 1) := by decide +kernel
theorem dL_tunes_101 : decode cL_tunes 101 = .ok (.istore_n 2, 1) := by decide +kernel
theorem dL_tunes_102 : decode cL_tunes 102 = .ok (.iload_n 3, 1) := by decide +kernel
theorem dL_tunes_103 : decode cL_tunes 103 = .ok (.iload 14, 2) := by decide +kernel
theorem dL_tunes_105 : decode cL_tunes 105 = .ok (.ifCond .ge 7, 3) := by decide +kernel
theorem dL_tunes_108 : decode cL_tunes 108 = .ok (.iconst 1, 1) := by decide +kernel
theorem dL_tunes_109 : decode cL_tunes 109 = .ok (.goto 4, 3) := by decide +kernel
theorem dL_tunes_112 : decode cL_tunes 112 = .ok (.iconst 0, 1) := by decide +kernel
theorem dL_tunes_113 : decode cL_tunes 113 = .ok (.iadd, 1) := by decide +kernel
theorem dL_tunes_114 : decode cL_tunes 114 = .ok (.istore_n 3, 1) := by decide +kernel
theorem dL_tunes_115 : decode cL_tunes 115 = .ok (.iload 4, 2) := by decide +kernel
theorem dL_tunes_117 : decode cL_tunes 117 = .ok (.aload 13, 2) := by decide +kernel
theorem dL_tunes_119 : decode cL_tunes 119 = .ok (.iconst 3, 1) := by decide +kernel
theorem dL_tunes_120 : decode cL_tunes 120 = .ok (.iaload, 1) := by decide +kernel
theorem dL_tunes_121 : decode cL_tunes 121 = .ok (.invokestatic 209, 3) := by decide +kernel
theorem dL_tunes_124 : decode cL_tunes 124 = .ok (.istore 4, 2) := by decide +kernel
theorem dL_tunes_126 : decode cL_tunes 126 = .ok (.iload 5, 2) := by decide +kernel
theorem dL_tunes_128 : decode cL_tunes 128 = .ok (.aload 13, 2) := by decide +kernel
theorem dL_tunes_130 : decode cL_tunes 130 = .ok (.iconst 3, 1) := by decide +kernel
theorem dL_tunes_131 : decode cL_tunes 131 = .ok (.iaload, 1) := by decide +kernel
theorem dL_tunes_132 : decode cL_tunes 132 = .ok (.invokestatic 206, 3) := by decide +kernel
theorem dL_tunes_135 : decode cL_tunes 135 = .ok (.istore 5, 2) := by decide +kernel
theorem dL_tunes_137 : decode cL_tunes 137 = .ok (.aload 7, 2) := by decide +kernel
theorem dL_tunes_139 : decode cL_tunes 139 = .ok (.aload 13, 2) := by decide +kernel
theorem dL_tunes_141 : decode cL_tunes 141 = .ok (.iconst 3, 1) := by decide +kernel
theorem dL_tunes_142 : decode cL_tunes 142 = .ok (.iaload, 1) := by decide +kernel
theorem dL_tunes_143 : decode cL_tunes 143 = .ok (.dup2, 1) := by decide +kernel
theorem dL_tunes_144 : decode cL_tunes 144 = .ok (.iaload, 1) := by decide +kernel
theorem dL_tunes_145 : decode cL_tunes 145 = .ok (.iconst 1, 1) := by decide +kernel
theorem dL_tunes_146 : decode cL_tunes 146 = .ok (.iadd, 1) := by decide +kernel
theorem dL_tunes_147 : decode cL_tunes 147 = .ok (.iastore, 1) := by decide +kernel
theorem dL_tunes_148 : decode cL_tunes 148 = .ok (.iload 8, 2) := by decide +kernel
theorem dL_tunes_150 : decode cL_tunes 150 = .ok (.aload 13, 2) := by decide +kernel
theorem dL_tunes_152 : decode cL_tunes 152 = .ok (.iconst 3, 1) := by decide +kernel
theorem dL_tunes_153 : decode cL_tunes 153 = .ok (.iaload, 1) := by decide +kernel
theorem dL_tunes_154 : decode cL_tunes 154 = .ok (.iadd, 1) := by decide +kernel
theorem dL_tunes_155 : decode cL_tunes 155 = .ok (.istore 8, 2) := by decide +kernel
theorem dL_tunes_157 : decode cL_tunes 157 = .ok (.iinc 9 1, 3) := by decide +kernel
theorem dL_tunes_160 : decode cL_tunes 160 = .ok (.aload 13, 2) := by decide +kernel
theorem dL_tunes_162 : decode cL_tunes 162 = .ok (.iconst 3, 1) := by decide +kernel
theorem dL_tunes_163 : decode cL_tunes 163 = .ok (.iaload, 1) := by decide +kernel
theorem dL_tunes_164 : decode cL_tunes 164 = .ok (.istore 6, 2) := by decide +kernel
theorem dL_tunes_166 : decode cL_tunes 166 = .ok (.iinc 12 1, 3) := by decide +kernel
theorem dL_tunes_169 : decode cL_tunes 169 = .ok (.goto (-127), 3) := by decide +kernel
theorem dL_tunes_172 : decode cL_tunes 172 = .ok (.aload_n 0, 1) := by decide +kernel
theorem dL_tunes_173 : decode cL_tunes 173 = .ok (.iconst 0, 1) := by decide +kernel
theorem dL_tunes_174 : decode cL_tunes 174 = .ok (.invokevirtual 237, 3) := by decide +kernel
theorem dL_tunes_177 : decode cL_tunes 177 = .ok (.iload_n 1, 1) := by decide +kernel
theorem dL_tunes_178 : decode cL_tunes 178 = .ok (.if_icmp .ne 101, 3) := by decide +kernel
theorem dL_tunes_181 : decode cL_tunes 181 = .ok (.aload_n 0, 1) := by decide +kernel
theorem dL_tunes_182 : decode cL_tunes 182 = .ok (.iconst 1, 1) := by decide +kernel
theorem dL_tunes_183 : decode cL_tunes 183 = .ok (.invokevirtual 237, 3) := by decide +kernel
theorem dL_tunes_186 : decode cL_tunes 186 = .ok (.iload_n 1, 1) := by decide +kernel
theorem dL_tunes_187 : decode cL_tunes 187 = .ok (.if_icmp .ne 92, 3) := by decide +kernel
theorem dL_tunes_190 : decode cL_tunes 190 = .ok (.aload_n 0, 1) := by decide +kernel
theorem dL_tunes_191 : decode cL_tunes 191 = .ok (.iconst 1, 1) := by decide +kernel
theorem dL_tunes_192 : decode cL_tunes 192 = .ok (.invokevirtual 240, 3) := by decide +kernel
theorem dL_tunes_195 : decode cL_tunes 195 = .ok (.iload_n 2, 1) := by decide +kernel
theorem dL_tunes_196 : decode cL_tunes 196 = .ok (.if_icmp .ne 83, 3) := by decide +kernel
theorem dL_tunes_199 : decode cL_tunes 199 = .ok (.aload_n 0, 1) := by decide +kernel
theorem dL_tunes_200 : decode cL_tunes 200 = .ok (.iconst 0, 1) := by decide +kernel
theorem dL_tunes_201 : decode cL_tunes 201 = .ok (.invokevirtual 240, 3) := by decide +kernel
theorem dL_tunes_204 : decode cL_tunes 204 = .ok (.iload_n 3, 1) := by decide +kernel
theorem dL_tunes_205 : decode cL_tunes 205 = .ok (.if_icmp .ne 74, 3) := by decide +kernel
theorem dL_tunes_208 : decode cL_tunes 208 = .ok (.aload_n 0, 1) := by decide +kernel
theorem dL_tunes_209 : decode cL_tunes 209 = .ok (.invokevirtual 243, 3) := by decide +kernel
theorem dL_tunes_212 : decode cL_tunes 212 = .ok (.iload 9, 2) := by decide +kernel
theorem dL_tunes_214 : decode cL_tunes 214 = .ok (.ifCond .ne 7, 3) := by decide +kernel
theorem dL_tunes_217 : decode cL_tunes 217 = .ok (.iconst 0, 1) := by decide +kernel
theorem dL_tunes_218 : decode cL_tunes 218 = .ok (.goto 8, 3) := by decide +kernel
theorem dL_tunes_221 : decode cL_tunes 221 = .ok (.iload 5, 2) := by decide +kernel
theorem dL_tunes_223 : decode cL_tunes 223 = .ok (.iload 4, 2) := by decide +kernel
theorem dL_tunes_225 : decode cL_tunes 225 = .ok (.isub, 1) := by decide +kernel
theorem dL_tunes_226 : decode cL_tunes 226 = .ok (.if_icmp .ne 53, 3) := by decide +kernel
theorem dL_tunes_229 : decode cL_tunes 229 = .ok (.aload_n 0, 1) := by decide +kernel
theorem dL_tunes_230 : decode cL_tunes 230 = .ok (.iconst 4, 1) := by decide +kernel
theorem dL_tunes_231 : decode cL_tunes 231 = .ok (.invokevirtual 147, 3) := by decide +kernel
theorem dL_tunes_234 : decode cL_tunes 234 = .ok (.iload 9, 2) := by decide +kernel
theorem dL_tunes_236 : decode cL_tunes 236 = .ok (.if_icmp .ne 43, 3) := by decide +kernel
theorem dL_tunes_239 : decode cL_tunes 239 = .ok (.aload_n 0, 1) := by decide +kernel
theorem dL_tunes_240 : decode cL_tunes 240 = .ok (.iconst 5, 1) := by decide +kernel
theorem dL_tunes_241 : decode cL_tunes 241 = .ok (.invokevirtual 147, 3) := by decide +kernel
theorem dL_tunes_244 : decode cL_tunes 244 = .ok (.aload_n 0, 1) := by decide +kernel
theorem dL_tunes_245 : decode cL_tunes 245 = .ok (.iconst 3, 1) := by decide +kernel
theorem dL_tunes_246 : decode cL_tunes 246 = .ok (.invokevirtual 147, 3) := by decide +kernel
theorem dL_tunes_249 : decode cL_tunes 249 = .ok (.iload 9, 2) := by decide +kernel
theorem dL_tunes_251 : decode cL_tunes 251 = .ok (.isub, 1) := by decide +kernel
theorem dL_tunes_252 : decode cL_tunes 252 = .ok (.if_icmp .ne 27, 3) := by decide +kernel
theorem dL_tunes_255 : decode cL_tunes 255 = .ok (.iload 9, 2) := by decide +kernel
theorem dL_tunes_257 : decode cL_tunes 257 = .ok (.ifCond .eq 18, 3) := by decide +kernel
theorem dL_tunes_260 : decode cL_tunes 260 = .ok (.aload_n 0, 1) := by decide +kernel
theorem dL_tunes_261 : decode cL_tunes 261 = .ok (.invokevirtual 246, 3) := by decide +kernel
theorem dL_tunes_264 : decode cL_tunes 264 = .ok (.iload 8, 2) := by decide +kernel
theorem dL_tunes_266 : decode cL_tunes 266 = .ok (.i2d, 1) := by decide +kernel
theorem dL_tunes_267 : decode cL_tunes 267 = .ok (.iload 9, 2) := by decide +kernel
theorem dL_tunes_269 : decode cL_tunes 269 = .ok (.i2d, 1) := by decide +kernel
theorem dL_tunes_270 : decode cL_tunes 270 = .ok (.ddiv, 1) := by decide +kernel
theorem dL_tunes_271 : decode cL_tunes 271 = .ok (.dcmp .l, 1) := by decide +kernel
theorem dL_tunes_272 : decode cL_tunes 272 = .ok (.ifCond .ne 7, 3) := by decide +kernel
theorem dL_tunes_275 : decode cL_tunes 275 = .ok (.iconst 1, 1) := by decide +kernel
theorem dL_tunes_276 : decode cL_tunes 276 = .ok (.goto 4, 3) := by decide +kernel
theorem dL_tunes_279 : decode cL_tunes 279 = .ok (.iconst 0, 1) := by decide +kernel
theorem dL_tunes_280 : decode cL_tunes 280 = .ok (.istore 10, 2) := by decide +kernel
theorem dL_tunes_282 : decode cL_tunes 282 = .ok (.iconst 0, 1) := by decide +kernel
theorem dL_tunes_283 : decode cL_tunes 283 = .ok (.istore 11, 2) := by decide +kernel
theorem dL_tunes_285 : decode cL_tunes 285 = .ok (.iload 11, 2) := by decide +kernel
theorem dL_tunes_287 : decode cL_tunes 287 = .ok (.bipush 12, 2) := by decide +kernel
theorem dL_tunes_289 : decode cL_tunes 289 = .ok (.if_icmp .ge 35, 3) := by decide +kernel
theorem dL_tunes_292 : decode cL_tunes 292 = .ok (.iload 10, 2) := by decide +kernel
theorem dL_tunes_294 : decode cL_tunes 294 = .ok (.ifCond .eq 21, 3) := by decide +kernel
theorem dL_tunes_297 : decode cL_tunes 297 = .ok (.aload_n 0, 1) := by decide +kernel
theorem dL_tunes_298 : decode cL_tunes 298 = .ok (.iload 11, 2) := by decide +kernel
theorem dL_tunes_300 : decode cL_tunes 300 = .ok (.invokestatic 250, 3) := by decide +kernel
theorem dL_tunes_303 : decode cL_tunes 303 = .ok (.aload 7, 2) := by decide +kernel
theorem dL_tunes_305 : decode cL_tunes 305 = .ok (.iload 11, 2) := by decide +kernel
theorem dL_tunes_307 : decode cL_tunes 307 = .ok (.iaload, 1) := by decide +kernel
theorem dL_tunes_308 : decode cL_tunes 308 = .ok (.if_icmp .ne 7, 3) := by decide +kernel
theorem dL_tunes_311 : decode cL_tunes 311 = .ok (.iconst 1, 1) := by decide +kernel
theorem dL_tunes_312 : decode cL_tunes 312 = .ok (.goto 4, 3) := by decide +kernel
theorem dL_tunes_315 : decode cL_tunes 315 = .ok (.iconst 0, 1) := by decide +kernel
theorem dL_tunes_316 : decode cL_tunes 316 = .ok (.istore 10, 2) := by decide +kernel
theorem dL_tunes_318 : decode cL_tunes 318 = .ok (.iinc 11 1, 3) := by decide +kernel
theorem dL_tunes_321 : decode cL_tunes 321 = .ok (.goto (-36), 3) := by decide +kernel
theorem dL_tunes_324 : decode cL_tunes 324 = .ok (.iload 10, 2) := by decide +kernel
theorem dL_tunes_326 : decode cL_tunes 326 = .ok (.ifCond .eq 49, 3) := by decide +kernel
theorem dL_tunes_329 : decode cL_tunes 329 = .ok (.aload_n 0, 1) := by decide +kernel
theorem dL_tunes_330 : decode cL_tunes 330 = .ok (.bipush 12, 2) := by decide +kernel
theorem dL_tunes_332 : decode cL_tunes 332 = .ok (.invokestatic 250, 3) := by decide +kernel
theorem dL_tunes_335 : decode cL_tunes 335 = .ok (.bipush (-12), 2) := by decide +kernel
theorem dL_tunes_337 : decode cL_tunes 337 = .ok (.if_icmp .ne 38, 3) := by decide +kernel
theorem dL_tunes_340 : decode cL_tunes 340 = .ok (.aload_n 0, 1) := by decide +kernel
theorem dL_tunes_341 : decode cL_tunes 341 = .ok (.iconst (-1), 1) := by decide +kernel
theorem dL_tunes_342 : decode cL_tunes 342 = .ok (.invokestatic 250, 3) := by decide +kernel
theorem dL_tunes_345 : decode cL_tunes 345 = .ok (.bipush (-12), 2) := by decide +kernel
theorem dL_tunes_347 : decode cL_tunes 347 = .ok (.if_icmp .ne 28, 3) := by decide +kernel
theorem dL_tunes_350 : decode cL_tunes 350 = .ok (.aload_n 0, 1) := by decide +kernel
theorem dL_tunes_351 : decode cL_tunes 351 = .ok (.invokevirtual 252, 3) := by decide +kernel
theorem dL_tunes_354 : decode cL_tunes 354 = .ok (.aload_n 0, 1) := by decide +kernel
theorem dL_tunes_355 : decode cL_tunes 355 = .ok (.iconst 2, 1) := by decide +kernel
theorem dL_tunes_356 : decode cL_tunes 356 = .ok (.invokevirtual 147, 3) := by decide +kernel
theorem dL_tunes_359 : decode cL_tunes 359 = .ok (.i2f, 1) := by decide +kernel
theorem dL_tunes_360 : decode cL_tunes 360 = .ok (.aload_n 0, 1) := by decide +kernel
theorem dL_tunes_361 : decode cL_tunes 361 = .ok (.iconst 1, 1) := by decide +kernel
theorem dL_tunes_362 : decode cL_tunes 362 = .ok (.invokevirtual 147, 3) := by decide +kernel
theorem dL_tunes_365 : decode cL_tunes 365 = .ok (.i2f, 1) := by decide +kernel
theorem dL_tunes_366 : decode cL_tunes 366 = .ok (.fdiv, 1) := by decide +kernel
theorem dL_tunes_367 : decode cL_tunes 367 = .ok (.fcmp .l, 1) := by decide +kernel
theorem dL_tunes_368 : decode cL_tunes 368 = .ok (.ifCond .ne 7, 3) := by decide +kernel
theorem dL_tunes_371 : decode cL_tunes 371 = .ok (.iconst 1, 1) := by decide +kernel
theorem dL_tunes_372 : decode cL_tunes 372 = .ok (.goto 4, 3) := by decide +kernel
theorem dL_tunes_375 : decode cL_tunes 375 = .ok (.iconst 0, 1) := by decide +kernel
theorem dL_tunes_376 : decode cL_tunes 376 = .ok (.ireturn, 1) := by decide +kernel
theorem dL_ranks_0 : decode cL_ranks 0 = .ok (.aload_n 0, 1) := by decide +kernel
theorem dL_ranks_1 : decode cL_ranks 1 = .ok (.invokestatic 202, 3) := by decide +kernel
theorem dL_ranks_4 : decode cL_ranks 4 = .ok (.astore_n 1, 1) := by decide +kernel
theorem dL_ranks_5 : decode cL_ranks 5 = .ok (.iconst 4, 1) := by decide +kernel
theorem dL_ranks_6 : decode cL_ranks 6 = .ok (.newarray .int, 2) := by decide +kernel
theorem dL_ranks_8 : decode cL_ranks 8 = .ok (.astore_n 2, 1) := by decide +kernel
theorem dL_ranks_9 : decode cL_ranks 9 = .ok (.iconst 4, 1) := by decide +kernel
theorem dL_ranks_10 : decode cL_ranks 10 = .ok (.newarray .int, 2) := by decide +kernel
theorem dL_ranks_12 : decode cL_ranks 12 = .ok (.astore_n 3, 1) := by decide +kernel
theorem dL_ranks_13 : decode cL_ranks 13 = .ok (.iconst 4, 1) := by decide +kernel
theorem dL_ranks_14 : decode cL_ranks 14 = .ok (.newarray .int, 2) := by decide +kernel
theorem dL_ranks_16 : decode cL_ranks 16 = .ok (.astore 4, 2) := by decide +kernel
theorem dL_ranks_18 : decode cL_ranks 18 = .ok (.aload_n 1, 1) := by decide +kernel
theorem dL_ranks_19 : decode cL_ranks 19 = .ok (.astore 5, 2) := by decide +kernel
theorem dL_ranks_21 : decode cL_ranks 21 = .ok (.aload 5, 2) := by decide +kernel
theorem dL_ranks_23 : decode cL_ranks 23 = .ok (.arraylength, 1) := by decide +kernel
theorem dL_ranks_24 : decode cL_ranks 24 = .ok (.istore 6, 2) := by decide +kernel
theorem dL_ranks_26 : decode cL_ranks 26 = .ok (.iconst 0, 1) := by decide +kernel
theorem dL_ranks_27 : decode cL_ranks 27 = .ok (.istore 7, 2) := by decide +kernel
theorem dL_ranks_29 : decode cL_ranks 29 = .ok (.iload 7, 2) := by decide +kernel
theorem dL_ranks_31 : decode cL_ranks 31 = .ok (.iload 6, 2) := by decide +kernel
theorem dL_ranks_33 : decode cL_ranks 33 = .ok (.if_icmp .ge 72, 3) := by decide +kernel
theorem dL_ranks_36 : decode cL_ranks 36 = .ok (.aload 5, 2) := by decide +kernel
theorem dL_ranks_38 : decode cL_ranks 38 = .ok (.iload 7, 2) := by decide +kernel
theorem dL_ranks_40 : decode cL_ranks 40 = .ok (.aaload, 1) := by decide +kernel
theorem dL_ranks_41 : decode cL_ranks 41 = .ok (.astore 8, 2) := by decide +kernel
theorem dL_ranks_43 : decode cL_ranks 43 = .ok (.aload_n 2, 1) := by decide +kernel
theorem dL_ranks_44 : decode cL_ranks 44 = .ok (.aload 8, 2) := by decide +kernel
theorem dL_ranks_46 : decode cL_ranks 46 = .ok (.iconst 0, 1) := by decide +kernel
theorem dL_ranks_47 : decode cL_ranks 47 = .ok (.iaload, 1) := by decide +kernel
theorem dL_ranks_48 : decode cL_ranks 48 = .ok (.dup2, 1) := by decide +kernel
theorem dL_ranks_49 : decode cL_ranks 49 = .ok (.iaload, 1) := by decide +kernel
theorem dL_ranks_50 : decode cL_ranks 50 = .ok (.aload 8, 2) := by decide +kernel
theorem dL_ranks_52 : decode cL_ranks 52 = .ok (.iconst 3, 1) := by decide +kernel
theorem dL_ranks_53 : decode cL_ranks 53 = .ok (.iaload, 1) := by decide +kernel
theorem dL_ranks_54 : decode cL_ranks 54 = .ok (.ifCond .ge 7, 3) := by decide +kernel
theorem dL_ranks_57 : decode cL_ranks 57 = .ok (.iconst 0, 1) := by decide +kernel
theorem dL_ranks_58 : decode cL_ranks 58 = .ok (.goto 4, 3) := by decide +kernel
theorem dL_ranks_61 : decode cL_ranks 61 = .ok (.iconst 1, 1) := by decide +kernel
theorem dL_ranks_62 : decode cL_ranks 62 = .ok (.iadd, 1) := by decide +kernel
theorem dL_ranks_63 : decode cL_ranks 63 = .ok (.iastore, 1) := by decide +kernel
theorem dL_ranks_64 : decode cL_ranks 64 = .ok (.aload_n 3, 1) := by decide +kernel
theorem dL_ranks_65 : decode cL_ranks 65 = .ok (.aload 8, 2) := by decide +kernel
theorem dL_ranks_67 : decode cL_ranks 67 = .ok (.iconst 0, 1) := by decide +kernel
theorem dL_ranks_68 : decode cL_ranks 68 = .ok (.iaload, 1) := by decide +kernel
theorem dL_ranks_69 : decode cL_ranks 69 = .ok (.dup2, 1) := by decide +kernel
theorem dL_ranks_70 : decode cL_ranks 70 = .ok (.iaload, 1) := by decide +kernel
theorem dL_ranks_71 : decode cL_ranks 71 = .ok (.aload 8, 2) := by decide +kernel
theorem dL_ranks_73 : decode cL_ranks 73 = .ok (.iconst 3, 1) := by decide +kernel
theorem dL_ranks_74 : decode cL_ranks 74 = .ok (.iaload, 1) := by decide +kernel
theorem dL_ranks_75 : decode cL_ranks 75 = .ok (.ifCond .ge 7, 3) := by decide +kernel
theorem dL_ranks_78 : decode cL_ranks 78 = .ok (.iconst 1, 1) := by decide +kernel
theorem dL_ranks_79 : decode cL_ranks 79 = .ok (.goto 4, 3) := by decide +kernel
theorem dL_ranks_82 : decode cL_ranks 82 = .ok (.iconst 0, 1) := by decide +kernel
theorem dL_ranks_83 : decode cL_ranks 83 = .ok (.iadd, 1) := by decide +kernel
theorem dL_ranks_84 : decode cL_ranks 84 = .ok (.iastore, 1) := by decide +kernel
theorem dL_ranks_85 : decode cL_ranks 85 = .ok (.aload 4, 2) := by decide +kernel
theorem dL_ranks_87 : decode cL_ranks 87 = .ok (.aload 8, 2) := by decide +kernel
theorem dL_ranks_89 : decode cL_ranks 89 = .ok (.iconst 0, 1) := by decide +kernel
theorem dL_ranks_90 : decode cL_ranks 90 = .ok (.iaload, 1) := by decide +kernel
theorem dL_ranks_91 : decode cL_ranks 91 = .ok (.dup2, 1) := by decide +kernel
theorem dL_ranks_92 : decode cL_ranks 92 = .ok (.iaload, 1) := by decide +kernel
theorem dL_ranks_93 : decode cL_ranks 93 = .ok (.aload 8, 2) := by decide +kernel
theorem dL_ranks_95 : decode cL_ranks 95 = .ok (.iconst 2, 1) := by decide +kernel
theorem dL_ranks_96 : decode cL_ranks 96 = .ok (.iaload, 1) := by decide +kernel
theorem dL_ranks_97 : decode cL_ranks 97 = .ok (.iadd, 1) := by decide +kernel
theorem dL_ranks_98 : decode cL_ranks 98 = .ok (.iastore, 1) := by decide +kernel
theorem dL_ranks_99 : decode cL_ranks 99 = .ok (.iinc 7 1, 3) := by decide +kernel
theorem dL_ranks_102 : decode cL_ranks 102 = .ok (.goto (-73), 3) := by decide +kernel
theorem dL_ranks_105 : decode cL_ranks 105 = .ok (.iconst 0, 1) := by decide +kernel
theorem dL_ranks_106 : decode cL_ranks 106 = .ok (.istore 5, 2) := by decide +kernel
theorem dL_ranks_108 : decode cL_ranks 108 = .ok (.iload 5, 2) := by decide +kernel
theorem dL_ranks_110 : decode cL_ranks 110 = .ok (.iconst 4, 1) := by decide +kernel
theorem dL_ranks_111 : decode cL_ranks 111 = .ok (.if_icmp .ge 148, 3) := by decide +kernel
theorem dL_ranks_114 : decode cL_ranks 114 = .ok (.aload_n 0, 1) := by decide +kernel
theorem dL_ranks_115 : decode cL_ranks 115 = .ok (.iload 5, 2) := by decide +kernel
theorem dL_ranks_117 : decode cL_ranks 117 = .ok (.invokestatic 256, 3) := by decide +kernel
theorem dL_ranks_120 : decode cL_ranks 120 = .ok (.istore 6, 2) := by decide +kernel
theorem dL_ranks_122 : decode cL_ranks 122 = .ok (.aload_n 0, 1) := by decide +kernel
theorem dL_ranks_123 : decode cL_ranks 123 = .ok (.iload 5, 2) := by decide +kernel
theorem dL_ranks_125 : decode cL_ranks 125 = .ok (.iconst 2, 1) := by decide +kernel
theorem dL_ranks_126 : decode cL_ranks 126 = .ok (.invokestatic 157, 3) := by decide +kernel
theorem dL_ranks_129 : decode cL_ranks 129 = .ok (.aload_n 2, 1) := by decide +kernel
theorem dL_ranks_130 : decode cL_ranks 130 = .ok (.iload 5, 2) := by decide +kernel
theorem dL_ranks_132 : decode cL_ranks 132 = .ok (.iaload, 1) := by decide +kernel
theorem dL_ranks_133 : decode cL_ranks 133 = .ok (.if_icmp .ne 44, 3) := by decide +kernel
theorem dL_ranks_136 : decode cL_ranks 136 = .ok (.aload_n 0, 1) := by decide +kernel
theorem dL_ranks_137 : decode cL_ranks 137 = .ok (.iload 5, 2) := by decide +kernel
theorem dL_ranks_139 : decode cL_ranks 139 = .ok (.iconst 3, 1) := by decide +kernel
theorem dL_ranks_140 : decode cL_ranks 140 = .ok (.invokestatic 157, 3) := by decide +kernel
theorem dL_ranks_143 : decode cL_ranks 143 = .ok (.aload_n 3, 1) := by decide +kernel
theorem dL_ranks_144 : decode cL_ranks 144 = .ok (.iload 5, 2) := by decide +kernel
theorem dL_ranks_146 : decode cL_ranks 146 = .ok (.iaload, 1) := by decide +kernel
theorem dL_ranks_147 : decode cL_ranks 147 = .ok (.if_icmp .ne 30, 3) := by decide +kernel
theorem dL_ranks_150 : decode cL_ranks 150 = .ok (.aload_n 0, 1) := by decide +kernel
theorem dL_ranks_151 : decode cL_ranks 151 = .ok (.iload 5, 2) := by decide +kernel
theorem dL_ranks_153 : decode cL_ranks 153 = .ok (.iconst 4, 1) := by decide +kernel
theorem dL_ranks_154 : decode cL_ranks 154 = .ok (.invokestatic 157, 3) := by decide +kernel
theorem dL_ranks_157 : decode cL_ranks 157 = .ok (.aload 4, 2) := by decide +kernel
theorem dL_ranks_159 : decode cL_ranks 159 = .ok (.iload 5, 2) := by decide +kernel
theorem dL_ranks_161 : decode cL_ranks 161 = .ok (.iaload, 1) := by decide +kernel
theorem dL_ranks_162 : decode cL_ranks 162 = .ok (.if_icmp .ne 15, 3) := by decide +kernel
theorem dL_ranks_165 : decode cL_ranks 165 = .ok (.aload_n 0, 1) := by decide +kernel
theorem dL_ranks_166 : decode cL_ranks 166 = .ok (.iload 5, 2) := by decide +kernel
theorem dL_ranks_168 : decode cL_ranks 168 = .ok (.iconst 5, 1) := by decide +kernel
theorem dL_ranks_169 : decode cL_ranks 169 = .ok (.invokestatic 157, 3) := by decide +kernel
theorem dL_ranks_172 : decode cL_ranks 172 = .ok (.bipush (-12), 2) := by decide +kernel
theorem dL_ranks_174 : decode cL_ranks 174 = .ok (.if_icmp .eq 5, 3) := by decide +kernel
theorem dL_ranks_177 : decode cL_ranks 177 = .ok (.iconst 0, 1) := by decide +kernel
theorem dL_ranks_178 : decode cL_ranks 178 = .ok (.ireturn, 1) := by decide +kernel
theorem dL_ranks_179 : decode cL_ranks 179 = .ok (.iload 5, 2) := by decide +kernel
theorem dL_ranks_181 : decode cL_ranks 181 = .ok (.ifCond .le 72, 3) := by decide +kernel
theorem dL_ranks_184 : decode cL_ranks 184 = .ok (.aload_n 0, 1) := by decide +kernel
theorem dL_ranks_185 : decode cL_ranks 185 = .ok (.iload 5, 2) := by decide +kernel
theorem dL_ranks_187 : decode cL_ranks 187 = .ok (.iconst 1, 1) := by decide +kernel
theorem dL_ranks_188 : decode cL_ranks 188 = .ok (.isub, 1) := by decide +kernel
theorem dL_ranks_189 : decode cL_ranks 189 = .ok (.invokestatic 256, 3) := by decide +kernel
theorem dL_ranks_192 : decode cL_ranks 192 = .ok (.istore 7, 2) := by decide +kernel
theorem dL_ranks_194 : decode cL_ranks 194 = .ok (.aload 4, 2) := by decide +kernel
theorem dL_ranks_196 : decode cL_ranks 196 = .ok (.iload 7, 2) := by decide +kernel
theorem dL_ranks_198 : decode cL_ranks 198 = .ok (.iaload, 1) := by decide +kernel
theorem dL_ranks_199 : decode cL_ranks 199 = .ok (.aload 4, 2) := by decide +kernel
theorem dL_ranks_201 : decode cL_ranks 201 = .ok (.iload 6, 2) := by decide +kernel
theorem dL_ranks_203 : decode cL_ranks 203 = .ok (.iaload, 1) := by decide +kernel
theorem dL_ranks_204 : decode cL_ranks 204 = .ok (.isub, 1) := by decide +kernel
theorem dL_ranks_205 : decode cL_ranks 205 = .ok (.istore 8, 2) := by decide +kernel
theorem dL_ranks_207 : decode cL_ranks 207 = .ok (.iload 8, 2) := by decide +kernel
theorem dL_ranks_209 : decode cL_ranks 209 = .ok (.ifCond .eq 8, 3) := by decide +kernel
theorem dL_ranks_212 : decode cL_ranks 212 = .ok (.iload 8, 2) := by decide +kernel
theorem dL_ranks_214 : decode cL_ranks 214 = .ok (.goto 18, 3) := by decide +kernel
theorem dL_ranks_217 : decode cL_ranks 217 = .ok (.aload_n 0, 1) := by decide +kernel
theorem dL_ranks_218 : decode cL_ranks 218 = .ok (.iload 7, 2) := by decide +kernel
theorem dL_ranks_220 : decode cL_ranks 220 = .ok (.iconst 0, 1) := by decide +kernel
theorem dL_ranks_221 : decode cL_ranks 221 = .ok (.invokestatic 157, 3) := by decide +kernel
theorem dL_ranks_224 : decode cL_ranks 224 = .ok (.aload_n 0, 1) := by decide +kernel
theorem dL_ranks_225 : decode cL_ranks 225 = .ok (.iload 6, 2) := by decide +kernel
theorem dL_ranks_227 : decode cL_ranks 227 = .ok (.iconst 0, 1) := by decide +kernel
theorem dL_ranks_228 : decode cL_ranks 228 = .ok (.invokestatic 157, 3) := by decide +kernel
theorem dL_ranks_231 : decode cL_ranks 231 = .ok (.isub, 1) := by decide +kernel
theorem dL_ranks_232 : decode cL_ranks 232 = .ok (.istore 8, 2) := by decide +kernel
theorem dL_ranks_234 : decode cL_ranks 234 = .ok (.iload 8, 2) := by decide +kernel
theorem dL_ranks_236 : decode cL_ranks 236 = .ok (.ifCond .lt 15, 3) := by decide +kernel
theorem dL_ranks_239 : decode cL_ranks 239 = .ok (.iload 8, 2) := by decide +kernel
theorem dL_ranks_241 : decode cL_ranks 241 = .ok (.ifCond .ne 12, 3) := by decide +kernel
theorem dL_ranks_244 : decode cL_ranks 244 = .ok (.iload 7, 2) := by decide +kernel
theorem dL_ranks_246 : decode cL_ranks 246 = .ok (.iload 6, 2) := by decide +kernel
theorem dL_ranks_248 : decode cL_ranks 248 = .ok (.if_icmp .le 5, 3) := by decide +kernel
theorem dL_ranks_251 : decode cL_ranks 251 = .ok (.iconst 0, 1) := by decide +kernel
theorem dL_ranks_252 : decode cL_ranks 252 = .ok (.ireturn, 1) := by decide +kernel
theorem dL_ranks_253 : decode cL_ranks 253 = .ok (.iinc 5 1, 3) := by decide +kernel
theorem dL_ranks_256 : decode cL_ranks 256 = .ok (.goto (-148), 3) := by decide +kernel
theorem dL_ranks_259 : decode cL_ranks 259 = .ok (.iconst (-1), 1) := by decide +kernel
theorem dL_ranks_260 : decode cL_ranks 260 = .ok (.istore 5, 2) := by decide +kernel
theorem dL_ranks_262 : decode cL_ranks 262 = .ok (.iconst 0, 1) := by decide +kernel
theorem dL_ranks_263 : decode cL_ranks 263 = .ok (.istore 6, 2) := by decide +kernel
theorem dL_ranks_265 : decode cL_ranks 265 = .ok (.iload 6, 2) := by decide +kernel
theorem dL_ranks_267 : decode cL_ranks 267 = .ok (.aload_n 0, 1) := by decide +kernel
theorem dL_ranks_268 : decode cL_ranks 268 = .ok (.iconst 4, 1) := by decide +kernel
theorem dL_ranks_269 : decode cL_ranks 269 = .ok (.invokevirtual 147, 3) := by decide +kernel
theorem dL_ranks_272 : decode cL_ranks 272 = .ok (.if_icmp .ge 103, 3) := by decide +kernel
theorem dL_ranks_275 : decode cL_ranks 275 = .ok (.aload_n 0, 1) := by decide +kernel
theorem dL_ranks_276 : decode cL_ranks 276 = .ok (.iload 6, 2) := by decide +kernel
theorem dL_ranks_278 : decode cL_ranks 278 = .ok (.invokestatic 258, 3) := by decide +kernel
theorem dL_ranks_281 : decode cL_ranks 281 = .ok (.istore 7, 2) := by decide +kernel
theorem dL_ranks_283 : decode cL_ranks 283 = .ok (.iload 5, 2) := by decide +kernel
theorem dL_ranks_285 : decode cL_ranks 285 = .ok (.ifCond .ge 7, 3) := by decide +kernel
theorem dL_ranks_288 : decode cL_ranks 288 = .ok (.iconst 1, 1) := by decide +kernel
theorem dL_ranks_289 : decode cL_ranks 289 = .ok (.goto 16, 3) := by decide +kernel
theorem dL_ranks_292 : decode cL_ranks 292 = .ok (.aload_n 1, 1) := by decide +kernel
theorem dL_ranks_293 : decode cL_ranks 293 = .ok (.iload 5, 2) := by decide +kernel
theorem dL_ranks_295 : decode cL_ranks 295 = .ok (.aaload, 1) := by decide +kernel
theorem dL_ranks_296 : decode cL_ranks 296 = .ok (.iconst 3, 1) := by decide +kernel
theorem dL_ranks_297 : decode cL_ranks 297 = .ok (.iaload, 1) := by decide +kernel
theorem dL_ranks_298 : decode cL_ranks 298 = .ok (.aload_n 1, 1) := by decide +kernel
theorem dL_ranks_299 : decode cL_ranks 299 = .ok (.iload 7, 2) := by decide +kernel
theorem dL_ranks_301 : decode cL_ranks 301 = .ok (.aaload, 1) := by decide +kernel
theorem dL_ranks_302 : decode cL_ranks 302 = .ok (.iconst 3, 1) := by decide +kernel
theorem dL_ranks_303 : decode cL_ranks 303 = .ok (.iaload, 1) := by decide +kernel
theorem dL_ranks_304 : decode cL_ranks 304 = .ok (.isub, 1) := by decide +kernel
theorem dL_ranks_305 : decode cL_ranks 305 = .ok (.istore 8, 2) := by decide +kernel
theorem dL_ranks_307 : decode cL_ranks 307 = .ok (.iload 8, 2) := by decide +kernel
theorem dL_ranks_309 : decode cL_ranks 309 = .ok (.ifCond .eq 8, 3) := by decide +kernel
theorem dL_ranks_312 : decode cL_ranks 312 = .ok (.iload 8, 2) := by decide +kernel
theorem dL_ranks_314 : decode cL_ranks 314 = .ok (.goto 16, 3) := by decide +kernel
theorem dL_ranks_317 : decode cL_ranks 317 = .ok (.aload_n 1, 1) := by decide +kernel
theorem dL_ranks_318 : decode cL_ranks 318 = .ok (.iload 5, 2) := by decide +kernel
theorem dL_ranks_320 : decode cL_ranks 320 = .ok (.aaload, 1) := by decide +kernel
theorem dL_ranks_321 : decode cL_ranks 321 = .ok (.iconst 2, 1) := by decide +kernel
theorem dL_ranks_322 : decode cL_ranks 322 = .ok (.iaload, 1) := by decide +kernel
theorem dL_ranks_323 : decode cL_ranks 323 = .ok (.aload_n 1, 1) := by decide +kernel
theorem dL_ranks_324 : decode cL_ranks 324 = .ok (.iload 7, 2) := by decide +kernel
theorem dL_ranks_326 : decode cL_ranks 326 = .ok (.aaload, 1) := by decide +kernel
theorem dL_ranks_327 : decode cL_ranks 327 = .ok (.iconst 2, 1) := by decide +kernel
theorem dL_ranks_328 : decode cL_ranks 328 = .ok (.iaload, 1) := by decide +kernel
theorem dL_ranks_329 : decode cL_ranks 329 = .ok (.isub, 1) := by decide +kernel
theorem dL_ranks_330 : decode cL_ranks 330 = .ok (.istore 8, 2) := by decide +kernel
theorem dL_ranks_332 : decode cL_ranks 332 = .ok (.iload 7, 2) := by decide +kernel
theorem dL_ranks_334 : decode cL_ranks 334 = .ok (.ifCond .lt 29, 3) := by decide +kernel
theorem dL_ranks_337 : decode cL_ranks 337 = .ok (.aload_n 1, 1) := by decide +kernel
theorem dL_ranks_338 : decode cL_ranks 338 = .ok (.iload 7, 2) := by decide +kernel
theorem dL_ranks_340 : decode cL_ranks 340 = .ok (.aaload, 1) := by decide +kernel
theorem dL_ranks_341 : decode cL_ranks 341 = .ok (.iconst 3, 1) := by decide +kernel
theorem dL_ranks_342 : decode cL_ranks 342 = .ok (.iaload, 1) := by decide +kernel
theorem dL_ranks_343 : decode cL_ranks 343 = .ok (.ifCond .lt 20, 3) := by decide +kernel
theorem dL_ranks_346 : decode cL_ranks 346 = .ok (.iload 8, 2) := by decide +kernel
theorem dL_ranks_348 : decode cL_ranks 348 = .ok (.ifCond .lt 15, 3) := by decide +kernel
theorem dL_ranks_351 : decode cL_ranks 351 = .ok (.iload 8, 2) := by decide +kernel
theorem dL_ranks_353 : decode cL_ranks 353 = .ok (.ifCond .ne 12, 3) := by decide +kernel
theorem dL_ranks_356 : decode cL_ranks 356 = .ok (.iload 5, 2) := by decide +kernel
theorem dL_ranks_358 : decode cL_ranks 358 = .ok (.iload 7, 2) := by decide +kernel
theorem dL_ranks_360 : decode cL_ranks 360 = .ok (.if_icmp .le 5, 3) := by decide +kernel
theorem dL_ranks_363 : decode cL_ranks 363 = .ok (.iconst 0, 1) := by decide +kernel
theorem dL_ranks_364 : decode cL_ranks 364 = .ok (.ireturn, 1) := by decide +kernel
theorem dL_ranks_365 : decode cL_ranks 365 = .ok (.iload 7, 2) := by decide +kernel
theorem dL_ranks_367 : decode cL_ranks 367 = .ok (.istore 5, 2) := by decide +kernel
theorem dL_ranks_369 : decode cL_ranks 369 = .ok (.iinc 6 1, 3) := by decide +kernel
theorem dL_ranks_372 : decode cL_ranks 372 = .ok (.goto (-107), 3) := by decide +kernel
theorem dL_ranks_375 : decode cL_ranks 375 = .ok (.aload_n 0, 1) := by decide +kernel
theorem dL_ranks_376 : decode cL_ranks 376 = .ok (.aload_n 0, 1) := by decide +kernel
theorem dL_ranks_377 : decode cL_ranks 377 = .ok (.iconst 4, 1) := by decide +kernel
theorem dL_ranks_378 : decode cL_ranks 378 = .ok (.invokevirtual 147, 3) := by decide +kernel
theorem dL_ranks_381 : decode cL_ranks 381 = .ok (.invokestatic 258, 3) := by decide +kernel
theorem dL_ranks_384 : decode cL_ranks 384 = .ok (.bipush (-13), 2) := by decide +kernel
theorem dL_ranks_386 : decode cL_ranks 386 = .ok (.if_icmp .ne 39, 3) := by decide +kernel
theorem dL_ranks_389 : decode cL_ranks 389 = .ok (.aload_n 0, 1) := by decide +kernel
theorem dL_ranks_390 : decode cL_ranks 390 = .ok (.iconst (-1), 1) := by decide +kernel
theorem dL_ranks_391 : decode cL_ranks 391 = .ok (.invokestatic 258, 3) := by decide +kernel
theorem dL_ranks_394 : decode cL_ranks 394 = .ok (.bipush (-13), 2) := by decide +kernel
theorem dL_ranks_396 : decode cL_ranks 396 = .ok (.if_icmp .ne 29, 3) := by decide +kernel
theorem dL_ranks_399 : decode cL_ranks 399 = .ok (.aload_n 0, 1) := by decide +kernel
theorem dL_ranks_400 : decode cL_ranks 400 = .ok (.iconst 4, 1) := by decide +kernel
theorem dL_ranks_401 : decode cL_ranks 401 = .ok (.invokestatic 256, 3) := by decide +kernel
theorem dL_ranks_404 : decode cL_ranks 404 = .ok (.bipush (-13), 2) := by decide +kernel
theorem dL_ranks_406 : decode cL_ranks 406 = .ok (.if_icmp .ne 19, 3) := by decide +kernel
theorem dL_ranks_409 : decode cL_ranks 409 = .ok (.aload_n 0, 1) := by decide +kernel
theorem dL_ranks_410 : decode cL_ranks 410 = .ok (.iconst 4, 1) := by decide +kernel
theorem dL_ranks_411 : decode cL_ranks 411 = .ok (.bipush 9, 2) := by decide +kernel
theorem dL_ranks_413 : decode cL_ranks 413 = .ok (.invokestatic 157, 3) := by decide +kernel
theorem dL_ranks_416 : decode cL_ranks 416 = .ok (.bipush (-11), 2) := by decide +kernel
theorem dL_ranks_418 : decode cL_ranks 418 = .ok (.if_icmp .ne 7, 3) := by decide +kernel
theorem dL_ranks_421 : decode cL_ranks 421 = .ok (.iconst 1, 1) := by decide +kernel
theorem dL_ranks_422 : decode cL_ranks 422 = .ok (.goto 4, 3) := by decide +kernel
theorem dL_ranks_425 : decode cL_ranks 425 = .ok (.iconst 0, 1) := by decide +kernel
theorem dL_ranks_426 : decode cL_ranks 426 = .ok (.ireturn, 1) := by decide +kernel
theorem dL_spells_0 : decode cL_spells 0 = .ok (.iload_n 1, 1) := by decide +kernel
theorem dL_spells_1 : decode cL_spells 1 = .ok (.aload_n 2, 1) := by decide +kernel
theorem dL_spells_2 : decode cL_spells 2 = .ok (.invokevirtual 109, 3) := by decide +kernel
theorem dL_spells_5 : decode cL_spells 5 = .ok (.if_icmp .ne 7, 3) := by decide +kernel
theorem dL_spells_8 : decode cL_spells 8 = .ok (.iconst 1, 1) := by decide +kernel
theorem dL_spells_9 : decode cL_spells 9 = .ok (.goto 4, 3) := by decide +kernel
theorem dL_spells_12 : decode cL_spells 12 = .ok (.iconst 0, 1) := by decide +kernel
theorem dL_spells_13 : decode cL_spells 13 = .ok (.istore_n 3, 1) := by decide +kernel
theorem dL_spells_14 : decode cL_spells 14 = .ok (.iconst 0, 1) := by decide +kernel
theorem dL_spells_15 : decode cL_spells 15 = .ok (.istore 4, 2) := by decide +kernel
theorem dL_spells_17 : decode cL_spells 17 = .ok (.iload 4, 2) := by decide +kernel
theorem dL_spells_19 : decode cL_spells 19 = .ok (.aload_n 2, 1) := by decide +kernel
theorem dL_spells_20 : decode cL_spells 20 = .ok (.invokevirtual 109, 3) := by decide +kernel
theorem dL_spells_23 : decode cL_spells 23 = .ok (.if_icmp .ge 34, 3) := by decide +kernel
theorem dL_spells_26 : decode cL_spells 26 = .ok (.iload_n 3, 1) := by decide +kernel
theorem dL_spells_27 : decode cL_spells 27 = .ok (.ifCond .eq 30, 3) := by decide +kernel
theorem dL_spells_30 : decode cL_spells 30 = .ok (.aload_n 0, 1) := by decide +kernel
theorem dL_spells_31 : decode cL_spells 31 = .ok (.iload 4, 2) := by decide +kernel
theorem dL_spells_33 : decode cL_spells 33 = .ok (.invokestatic 260, 3) := by decide +kernel
theorem dL_spells_36 : decode cL_spells 36 = .ok (.aload_n 2, 1) := by decide +kernel
theorem dL_spells_37 : decode cL_spells 37 = .ok (.iload 4, 2) := by decide +kernel
theorem dL_spells_39 : decode cL_spells 39 = .ok (.invokevirtual 114, 3) := by decide +kernel
theorem dL_spells_42 : decode cL_spells 42 = .ok (.if_icmp .ne 7, 3) := by decide +kernel
theorem dL_spells_45 : decode cL_spells 45 = .ok (.iconst 1, 1) := by decide +kernel
theorem dL_spells_46 : decode cL_spells 46 = .ok (.goto 4, 3) := by decide +kernel
theorem dL_spells_49 : decode cL_spells 49 = .ok (.iconst 0, 1) := by decide +kernel
theorem dL_spells_50 : decode cL_spells 50 = .ok (.istore_n 3, 1) := by decide +kernel
theorem dL_spells_51 : decode cL_spells 51 = .ok (.iinc 4 1, 3) := by decide +kernel
theorem dL_spells_54 : decode cL_spells 54 = .ok (.goto (-37), 3) := by decide +kernel
theorem dL_spells_57 : decode cL_spells 57 = .ok (.iload_n 3, 1) := by decide +kernel
theorem dL_spells_58 : decode cL_spells 58 = .ok (.ifCond .eq 17, 3) := by decide +kernel
theorem dL_spells_61 : decode cL_spells 61 = .ok (.aload_n 0, 1) := by decide +kernel
theorem dL_spells_62 : decode cL_spells 62 = .ok (.iload_n 1, 1) := by decide +kernel
theorem dL_spells_63 : decode cL_spells 63 = .ok (.invokestatic 260, 3) := by decide +kernel
theorem dL_spells_66 : decode cL_spells 66 = .ok (.bipush (-11), 2) := by decide +kernel
theorem dL_spells_68 : decode cL_spells 68 = .ok (.if_icmp .ne 7, 3) := by decide +kernel
theorem dL_spells_71 : decode cL_spells 71 = .ok (.iconst 1, 1) := by decide +kernel
theorem dL_spells_72 : decode cL_spells 72 = .ok (.goto 4, 3) := by decide +kernel
theorem dL_spells_75 : decode cL_spells 75 = .ok (.iconst 0, 1) := by decide +kernel
theorem dL_spells_76 : decode cL_spells 76 = .ok (.ireturn, 1) := by decide +kernel
theorem dL_lines_0 : decode cL_lines 0 = .ok (.iconst 0, 1) := by decide +kernel
theorem dL_lines_1 : decode cL_lines 1 = .ok (.istore_n 1, 1) := by decide +kernel
theorem dL_lines_2 : decode cL_lines 2 = .ok (.iload_n 1, 1) := by decide +kernel
theorem dL_lines_3 : decode cL_lines 3 = .ok (.aload_n 0, 1) := by decide +kernel
theorem dL_lines_4 : decode cL_lines 4 = .ok (.iconst 0, 1) := by decide +kernel
theorem dL_lines_5 : decode cL_lines 5 = .ok (.invokevirtual 147, 3) := by decide +kernel
theorem dL_lines_8 : decode cL_lines 8 = .ok (.if_icmp .ge 168, 3) := by decide +kernel
theorem dL_lines_11 : decode cL_lines 11 = .ok (.ldc_w 262, 3) := by decide +kernel
theorem dL_lines_14 : decode cL_lines 14 = .ok (.astore_n 2, 1) := by decide +kernel
theorem dL_lines_15 : decode cL_lines 15 = .ok (.iconst 0, 1) := by decide +kernel
theorem dL_lines_16 : decode cL_lines 16 = .ok (.istore_n 3, 1) := by decide +kernel
theorem dL_lines_17 : decode cL_lines 17 = .ok (.iload_n 3, 1) := by decide +kernel
theorem dL_lines_18 : decode cL_lines 18 = .ok (.aload_n 0, 1) := by decide +kernel
theorem dL_lines_19 : decode cL_lines 19 = .ok (.iload_n 1, 1) := by decide +kernel
theorem dL_lines_20 : decode cL_lines 20 = .ok (.iconst 2, 1) := by decide +kernel
theorem dL_lines_21 : decode cL_lines 21 = .ok (.invokestatic 159, 3) := by decide +kernel
theorem dL_lines_24 : decode cL_lines 24 = .ok (.if_icmp .ge 96, 3) := by decide +kernel
theorem dL_lines_27 : decode cL_lines 27 = .ok (.aload_n 0, 1) := by decide +kernel
theorem dL_lines_28 : decode cL_lines 28 = .ok (.aload_n 0, 1) := by decide +kernel
theorem dL_lines_29 : decode cL_lines 29 = .ok (.iload_n 1, 1) := by decide +kernel
theorem dL_lines_30 : decode cL_lines 30 = .ok (.iload_n 3, 1) := by decide +kernel
theorem dL_lines_31 : decode cL_lines 31 = .ok (.iconst 0, 1) := by decide +kernel
theorem dL_lines_32 : decode cL_lines 32 = .ok (.invokestatic 212, 3) := by decide +kernel
theorem dL_lines_35 : decode cL_lines 35 = .ok (.iconst 3, 1) := by decide +kernel
theorem dL_lines_36 : decode cL_lines 36 = .ok (.invokestatic 154, 3) := by decide +kernel
theorem dL_lines_39 : decode cL_lines 39 = .ok (.istore 4, 2) := by decide +kernel
theorem dL_lines_41 : decode cL_lines 41 = .ok (.new 264, 3) := by decide +kernel
theorem dL_lines_44 : decode cL_lines 44 = .ok (.dup, 1) := by decide +kernel
theorem dL_lines_45 : decode cL_lines 45 = .ok (.invokespecial 266, 3) := by decide +kernel
theorem dL_lines_48 : decode cL_lines 48 = .ok (.aload_n 2, 1) := by decide +kernel
theorem dL_lines_49 : decode cL_lines 49 = .ok (.invokevirtual 267, 3) := by decide +kernel
theorem dL_lines_52 : decode cL_lines 52 = .ok (.aload_n 0, 1) := by decide +kernel
theorem dL_lines_53 : decode cL_lines 53 = .ok (.iload_n 1, 1) := by decide +kernel
theorem dL_lines_54 : decode cL_lines 54 = .ok (.iload_n 3, 1) := by decide +kernel
theorem dL_lines_55 : decode cL_lines 55 = .ok (.iconst 2, 1) := by decide +kernel
theorem dL_lines_56 : decode cL_lines 56 = .ok (.invokestatic 212, 3) := by decide +kernel
theorem dL_lines_59 : decode cL_lines 59 = .ok (.iconst 1, 1) := by decide +kernel
theorem dL_lines_60 : decode cL_lines 60 = .ok (.if_icmp .ne 9, 3) := by decide +kernel
theorem dL_lines_63 : decode cL_lines 63 = .ok (.ldc_w 270, 3) := by decide +kernel
theorem dL_lines_66 : decode cL_lines 66 = .ok (.goto 6, 3) := by decide +kernel
theorem dL_lines_69 : decode cL_lines 69 = .ok (.ldc_w 262, 3) := by decide +kernel
theorem dL_lines_72 : decode cL_lines 72 = .ok (.invokevirtual 267, 3) := by decide +kernel
theorem dL_lines_75 : decode cL_lines 75 = .ok (.iload 4, 2) := by decide +kernel
theorem dL_lines_77 : decode cL_lines 77 = .ok (.ifCond .ge 8, 3) := by decide +kernel
theorem dL_lines_80 : decode cL_lines 80 = .ok (.bipush 46, 2) := by decide +kernel
theorem dL_lines_82 : decode cL_lines 82 = .ok (.goto 9, 3) := by decide +kernel
theorem dL_lines_85 : decode cL_lines 85 = .ok (.bipush 97, 2) := by decide +kernel
theorem dL_lines_87 : decode cL_lines 87 = .ok (.iload 4, 2) := by decide +kernel
theorem dL_lines_89 : decode cL_lines 89 = .ok (.iadd, 1) := by decide +kernel
theorem dL_lines_90 : decode cL_lines 90 = .ok (.i2c, 1) := by decide +kernel
theorem dL_lines_91 : decode cL_lines 91 = .ok (.invokevirtual 272, 3) := by decide +kernel
theorem dL_lines_94 : decode cL_lines 94 = .ok (.aload_n 0, 1) := by decide +kernel
theorem dL_lines_95 : decode cL_lines 95 = .ok (.iload_n 1, 1) := by decide +kernel
theorem dL_lines_96 : decode cL_lines 96 = .ok (.iload_n 3, 1) := by decide +kernel
theorem dL_lines_97 : decode cL_lines 97 = .ok (.iconst 1, 1) := by decide +kernel
theorem dL_lines_98 : decode cL_lines 98 = .ok (.invokestatic 212, 3) := by decide +kernel
theorem dL_lines_101 : decode cL_lines 101 = .ok (.invokevirtual 275, 3) := by decide +kernel
theorem dL_lines_104 : decode cL_lines 104 = .ok (.ldc_w 278, 3) := by decide +kernel
theorem dL_lines_107 : decode cL_lines 107 = .ok (.invokevirtual 267, 3) := by decide +kernel
theorem dL_lines_110 : decode cL_lines 110 = .ok (.invokevirtual 280, 3) := by decide +kernel
theorem dL_lines_113 : decode cL_lines 113 = .ok (.astore_n 2, 1) := by decide +kernel
theorem dL_lines_114 : decode cL_lines 114 = .ok (.iinc 3 1, 3) := by decide +kernel
theorem dL_lines_117 : decode cL_lines 117 = .ok (.goto (-100), 3) := by decide +kernel
theorem dL_lines_120 : decode cL_lines 120 = .ok (.aload_n 0, 1) := by decide +kernel
theorem dL_lines_121 : decode cL_lines 121 = .ok (.aload_n 0, 1) := by decide +kernel
theorem dL_lines_122 : decode cL_lines 122 = .ok (.iload_n 1, 1) := by decide +kernel
theorem dL_lines_123 : decode cL_lines 123 = .ok (.invokestatic 284, 3) := by decide +kernel
theorem dL_lines_126 : decode cL_lines 126 = .ok (.new 264, 3) := by decide +kernel
theorem dL_lines_129 : decode cL_lines 129 = .ok (.dup, 1) := by decide +kernel
theorem dL_lines_130 : decode cL_lines 130 = .ok (.invokespecial 266, 3) := by decide +kernel
theorem dL_lines_133 : decode cL_lines 133 = .ok (.aload_n 2, 1) := by decide +kernel
theorem dL_lines_134 : decode cL_lines 134 = .ok (.invokevirtual 267, 3) := by decide +kernel
theorem dL_lines_137 : decode cL_lines 137 = .ok (.ldc_w 286, 3) := by decide +kernel
theorem dL_lines_140 : decode cL_lines 140 = .ok (.invokevirtual 267, 3) := by decide +kernel
theorem dL_lines_143 : decode cL_lines 143 = .ok (.aload_n 0, 1) := by decide +kernel
theorem dL_lines_144 : decode cL_lines 144 = .ok (.iload_n 1, 1) := by decide +kernel
theorem dL_lines_145 : decode cL_lines 145 = .ok (.iconst 0, 1) := by decide +kernel
theorem dL_lines_146 : decode cL_lines 146 = .ok (.invokestatic 159, 3) := by decide +kernel
theorem dL_lines_149 : decode cL_lines 149 = .ok (.aload_n 0, 1) := by decide +kernel
theorem dL_lines_150 : decode cL_lines 150 = .ok (.iload_n 1, 1) := by decide +kernel
theorem dL_lines_151 : decode cL_lines 151 = .ok (.iconst 1, 1) := by decide +kernel
theorem dL_lines_152 : decode cL_lines 152 = .ok (.invokestatic 159, 3) := by decide +kernel
theorem dL_lines_155 : decode cL_lines 155 = .ok (.isub, 1) := by decide +kernel
theorem dL_lines_156 : decode cL_lines 156 = .ok (.invokevirtual 275, 3) := by decide +kernel
theorem dL_lines_159 : decode cL_lines 159 = .ok (.invokevirtual 280, 3) := by decide +kernel
theorem dL_lines_162 : decode cL_lines 162 = .ok (.invokestatic 288, 3) := by decide +kernel
theorem dL_lines_165 : decode cL_lines 165 = .ok (.ifCond .ne 5, 3) := by decide +kernel
theorem dL_lines_168 : decode cL_lines 168 = .ok (.iconst 0, 1) := by decide +kernel
theorem dL_lines_169 : decode cL_lines 169 = .ok (.ireturn, 1) := by decide +kernel
theorem dL_lines_170 : decode cL_lines 170 = .ok (.iinc 1 1, 3) := by decide +kernel
theorem dL_lines_173 : decode cL_lines 173 = .ok (.goto (-171), 3) := by decide +kernel
theorem dL_lines_176 : decode cL_lines 176 = .ok (.iconst 0, 1) := by decide +kernel
theorem dL_lines_177 : decode cL_lines 177 = .ok (.istore_n 1, 1) := by decide +kernel
theorem dL_lines_178 : decode cL_lines 178 = .ok (.iload_n 1, 1) := by decide +kernel
theorem dL_lines_179 : decode cL_lines 179 = .ok (.iconst 4, 1) := by decide +kernel
theorem dL_lines_180 : decode cL_lines 180 = .ok (.if_icmp .ge 57, 3) := by decide +kernel
theorem dL_lines_183 : decode cL_lines 183 = .ok (.aload_n 0, 1) := by decide +kernel
theorem dL_lines_184 : decode cL_lines 184 = .ok (.aload_n 0, 1) := by decide +kernel
theorem dL_lines_185 : decode cL_lines 185 = .ok (.iload_n 1, 1) := by decide +kernel
theorem dL_lines_186 : decode cL_lines 186 = .ok (.invokestatic 292, 3) := by decide +kernel
theorem dL_lines_189 : decode cL_lines 189 = .ok (.new 264, 3) := by decide +kernel
theorem dL_lines_192 : decode cL_lines 192 = .ok (.dup, 1) := by decide +kernel
theorem dL_lines_193 : decode cL_lines 193 = .ok (.invokespecial 266, 3) := by decide +kernel
theorem dL_lines_196 : decode cL_lines 196 = .ok (.aload_n 0, 1) := by decide +kernel
theorem dL_lines_197 : decode cL_lines 197 = .ok (.iload_n 1, 1) := by decide +kernel
theorem dL_lines_198 : decode cL_lines 198 = .ok (.iconst 0, 1) := by decide +kernel
theorem dL_lines_199 : decode cL_lines 199 = .ok (.invokestatic 157, 3) := by decide +kernel
theorem dL_lines_202 : decode cL_lines 202 = .ok (.invokevirtual 275, 3) := by decide +kernel
theorem dL_lines_205 : decode cL_lines 205 = .ok (.ldc_w 294, 3) := by decide +kernel
theorem dL_lines_208 : decode cL_lines 208 = .ok (.invokevirtual 267, 3) := by decide +kernel
theorem dL_lines_211 : decode cL_lines 211 = .ok (.aload_n 0, 1) := by decide +kernel
theorem dL_lines_212 : decode cL_lines 212 = .ok (.iload_n 1, 1) := by decide +kernel
theorem dL_lines_213 : decode cL_lines 213 = .ok (.iconst 1, 1) := by decide +kernel
theorem dL_lines_214 : decode cL_lines 214 = .ok (.invokestatic 157, 3) := by decide +kernel
theorem dL_lines_217 : decode cL_lines 217 = .ok (.invokevirtual 275, 3) := by decide +kernel
theorem dL_lines_220 : decode cL_lines 220 = .ok (.invokevirtual 280, 3) := by decide +kernel
theorem dL_lines_223 : decode cL_lines 223 = .ok (.invokestatic 288, 3) := by decide +kernel
theorem dL_lines_226 : decode cL_lines 226 = .ok (.ifCond .ne 5, 3) := by decide +kernel
theorem dL_lines_229 : decode cL_lines 229 = .ok (.iconst 0, 1) := by decide +kernel
theorem dL_lines_230 : decode cL_lines 230 = .ok (.ireturn, 1) := by decide +kernel
theorem dL_lines_231 : decode cL_lines 231 = .ok (.iinc 1 1, 3) := by decide +kernel
theorem dL_lines_234 : decode cL_lines 234 = .ok (.goto (-56), 3) := by decide +kernel
theorem dL_lines_237 : decode cL_lines 237 = .ok (.aload_n 0, 1) := by decide +kernel
theorem dL_lines_238 : decode cL_lines 238 = .ok (.aload_n 0, 1) := by decide +kernel
theorem dL_lines_239 : decode cL_lines 239 = .ok (.iconst 0, 1) := by decide +kernel
theorem dL_lines_240 : decode cL_lines 240 = .ok (.invokevirtual 147, 3) := by decide +kernel
theorem dL_lines_243 : decode cL_lines 243 = .ok (.invokestatic 284, 3) := by decide +kernel
theorem dL_lines_246 : decode cL_lines 246 = .ok (.bipush (-11), 2) := by decide +kernel
theorem dL_lines_248 : decode cL_lines 248 = .ok (.if_icmp .ne 17, 3) := by decide +kernel
theorem dL_lines_251 : decode cL_lines 251 = .ok (.aload_n 0, 1) := by decide +kernel
theorem dL_lines_252 : decode cL_lines 252 = .ok (.iconst 4, 1) := by decide +kernel
theorem dL_lines_253 : decode cL_lines 253 = .ok (.invokestatic 292, 3) := by decide +kernel
theorem dL_lines_256 : decode cL_lines 256 = .ok (.bipush (-11), 2) := by decide +kernel
theorem dL_lines_258 : decode cL_lines 258 = .ok (.if_icmp .ne 7, 3) := by decide +kernel
theorem dL_lines_261 : decode cL_lines 261 = .ok (.iconst 1, 1) := by decide +kernel
theorem dL_lines_262 : decode cL_lines 262 = .ok (.goto 4, 3) := by decide +kernel
theorem dL_lines_265 : decode cL_lines 265 = .ok (.iconst 0, 1) := by decide +kernel
theorem dL_lines_266 : decode cL_lines 266 = .ok (.ireturn, 1) := by decide +kernel
theorem dL_sum_0 : decode cL_sum 0 = .ok (.ldc2_w 296, 3) := by decide +kernel
theorem dL_sum_3 : decode cL_sum 3 = .ok (.lstore_n 1, 1) := by decide +kernel
theorem dL_sum_4 : decode cL_sum 4 = .ok (.iconst 0, 1) := by decide +kernel
theorem dL_sum_5 : decode cL_sum 5 = .ok (.istore_n 3, 1) := by decide +kernel
theorem dL_sum_6 : decode cL_sum 6 = .ok (.iload_n 3, 1) := by decide +kernel
theorem dL_sum_7 : decode cL_sum 7 = .ok (.bipush 10, 2) := by decide +kernel
theorem dL_sum_9 : decode cL_sum 9 = .ok (.if_icmp .ge 22, 3) := by decide +kernel
theorem dL_sum_12 : decode cL_sum 12 = .ok (.ldc2_w 298, 3) := by decide +kernel
theorem dL_sum_15 : decode cL_sum 15 = .ok (.lload_n 1, 1) := by decide +kernel
theorem dL_sum_16 : decode cL_sum 16 = .ok (.lmul, 1) := by decide +kernel
theorem dL_sum_17 : decode cL_sum 17 = .ok (.aload_n 0, 1) := by decide +kernel
theorem dL_sum_18 : decode cL_sum 18 = .ok (.iload_n 3, 1) := by decide +kernel
theorem dL_sum_19 : decode cL_sum 19 = .ok (.invokevirtual 147, 3) := by decide +kernel
theorem dL_sum_22 : decode cL_sum 22 = .ok (.i2l, 1) := by decide +kernel
theorem dL_sum_23 : decode cL_sum 23 = .ok (.ladd, 1) := by decide +kernel
theorem dL_sum_24 : decode cL_sum 24 = .ok (.lstore_n 1, 1) := by decide +kernel
theorem dL_sum_25 : decode cL_sum 25 = .ok (.iinc 3 1, 3) := by decide +kernel
theorem dL_sum_28 : decode cL_sum 28 = .ok (.goto (-22), 3) := by decide +kernel
theorem dL_sum_31 : decode cL_sum 31 = .ok (.iconst 0, 1) := by decide +kernel
theorem dL_sum_32 : decode cL_sum 32 = .ok (.istore_n 3, 1) := by decide +kernel
theorem dL_sum_33 : decode cL_sum 33 = .ok (.iload_n 3, 1) := by decide +kernel
theorem dL_sum_34 : decode cL_sum 34 = .ok (.iconst 3, 1) := by decide +kernel
theorem dL_sum_35 : decode cL_sum 35 = .ok (.aload_n 0, 1) := by decide +kernel
theorem dL_sum_36 : decode cL_sum 36 = .ok (.iconst 3, 1) := by decide +kernel
theorem dL_sum_37 : decode cL_sum 37 = .ok (.invokevirtual 147, 3) := by decide +kernel
theorem dL_sum_40 : decode cL_sum 40 = .ok (.imul, 1) := by decide +kernel
theorem dL_sum_41 : decode cL_sum 41 = .ok (.if_icmp .ge 27, 3) := by decide +kernel
theorem dL_sum_44 : decode cL_sum 44 = .ok (.ldc2_w 300, 3) := by decide +kernel
theorem dL_sum_47 : decode cL_sum 47 = .ok (.lload_n 1, 1) := by decide +kernel
theorem dL_sum_48 : decode cL_sum 48 = .ok (.lmul, 1) := by decide +kernel
theorem dL_sum_49 : decode cL_sum 49 = .ok (.aload_n 0, 1) := by decide +kernel
theorem dL_sum_50 : decode cL_sum 50 = .ok (.iload_n 3, 1) := by decide +kernel
theorem dL_sum_51 : decode cL_sum 51 = .ok (.iconst 3, 1) := by decide +kernel
theorem dL_sum_52 : decode cL_sum 52 = .ok (.idiv, 1) := by decide +kernel
theorem dL_sum_53 : decode cL_sum 53 = .ok (.iload_n 3, 1) := by decide +kernel
theorem dL_sum_54 : decode cL_sum 54 = .ok (.iconst 3, 1) := by decide +kernel
theorem dL_sum_55 : decode cL_sum 55 = .ok (.irem, 1) := by decide +kernel
theorem dL_sum_56 : decode cL_sum 56 = .ok (.invokestatic 154, 3) := by decide +kernel
theorem dL_sum_59 : decode cL_sum 59 = .ok (.i2l, 1) := by decide +kernel
theorem dL_sum_60 : decode cL_sum 60 = .ok (.ladd, 1) := by decide +kernel
theorem dL_sum_61 : decode cL_sum 61 = .ok (.lstore_n 1, 1) := by decide +kernel
theorem dL_sum_62 : decode cL_sum 62 = .ok (.iinc 3 1, 3) := by decide +kernel
theorem dL_sum_65 : decode cL_sum 65 = .ok (.goto (-32), 3) := by decide +kernel
theorem dL_sum_68 : decode cL_sum 68 = .ok (.iconst 0, 1) := by decide +kernel
theorem dL_sum_69 : decode cL_sum 69 = .ok (.istore_n 3, 1) := by decide +kernel
theorem dL_sum_70 : decode cL_sum 70 = .ok (.iload_n 3, 1) := by decide +kernel
theorem dL_sum_71 : decode cL_sum 71 = .ok (.bipush 8, 2) := by decide +kernel
theorem dL_sum_73 : decode cL_sum 73 = .ok (.if_icmp .ge 27, 3) := by decide +kernel
theorem dL_sum_76 : decode cL_sum 76 = .ok (.ldc2_w 302, 3) := by decide +kernel
theorem dL_sum_79 : decode cL_sum 79 = .ok (.lload_n 1, 1) := by decide +kernel
theorem dL_sum_80 : decode cL_sum 80 = .ok (.lmul, 1) := by decide +kernel
theorem dL_sum_81 : decode cL_sum 81 = .ok (.aload_n 0, 1) := by decide +kernel
theorem dL_sum_82 : decode cL_sum 82 = .ok (.iload_n 3, 1) := by decide +kernel
theorem dL_sum_83 : decode cL_sum 83 = .ok (.iconst 2, 1) := by decide +kernel
theorem dL_sum_84 : decode cL_sum 84 = .ok (.idiv, 1) := by decide +kernel
theorem dL_sum_85 : decode cL_sum 85 = .ok (.iload_n 3, 1) := by decide +kernel
theorem dL_sum_86 : decode cL_sum 86 = .ok (.iconst 2, 1) := by decide +kernel
theorem dL_sum_87 : decode cL_sum 87 = .ok (.irem, 1) := by decide +kernel
theorem dL_sum_88 : decode cL_sum 88 = .ok (.invokestatic 157, 3) := by decide +kernel
theorem dL_sum_91 : decode cL_sum 91 = .ok (.i2l, 1) := by decide +kernel
theorem dL_sum_92 : decode cL_sum 92 = .ok (.ladd, 1) := by decide +kernel
theorem dL_sum_93 : decode cL_sum 93 = .ok (.lstore_n 1, 1) := by decide +kernel
theorem dL_sum_94 : decode cL_sum 94 = .ok (.iinc 3 1, 3) := by decide +kernel
theorem dL_sum_97 : decode cL_sum 97 = .ok (.goto (-27), 3) := by decide +kernel
theorem dL_sum_100 : decode cL_sum 100 = .ok (.iconst 0, 1) := by decide +kernel
theorem dL_sum_101 : decode cL_sum 101 = .ok (.istore_n 3, 1) := by decide +kernel
theorem dL_sum_102 : decode cL_sum 102 = .ok (.iload_n 3, 1) := by decide +kernel
theorem dL_sum_103 : decode cL_sum 103 = .ok (.aload_n 0, 1) := by decide +kernel
theorem dL_sum_104 : decode cL_sum 104 = .ok (.iconst 0, 1) := by decide +kernel
theorem dL_sum_105 : decode cL_sum 105 = .ok (.invokevirtual 147, 3) := by decide +kernel
theorem dL_sum_108 : decode cL_sum 108 = .ok (.if_icmp .ge 23, 3) := by decide +kernel
theorem dL_sum_111 : decode cL_sum 111 = .ok (.ldc2_w 304, 3) := by decide +kernel
theorem dL_sum_114 : decode cL_sum 114 = .ok (.lload_n 1, 1) := by decide +kernel
theorem dL_sum_115 : decode cL_sum 115 = .ok (.lmul, 1) := by decide +kernel
theorem dL_sum_116 : decode cL_sum 116 = .ok (.aload_n 0, 1) := by decide +kernel
theorem dL_sum_117 : decode cL_sum 117 = .ok (.iload_n 3, 1) := by decide +kernel
theorem dL_sum_118 : decode cL_sum 118 = .ok (.iconst 0, 1) := by decide +kernel
theorem dL_sum_119 : decode cL_sum 119 = .ok (.invokestatic 159, 3) := by decide +kernel
theorem dL_sum_122 : decode cL_sum 122 = .ok (.i2l, 1) := by decide +kernel
theorem dL_sum_123 : decode cL_sum 123 = .ok (.ladd, 1) := by decide +kernel
theorem dL_sum_124 : decode cL_sum 124 = .ok (.lstore_n 1, 1) := by decide +kernel
theorem dL_sum_125 : decode cL_sum 125 = .ok (.iinc 3 1, 3) := by decide +kernel
theorem dL_sum_128 : decode cL_sum 128 = .ok (.goto (-26), 3) := by decide +kernel
theorem dL_sum_131 : decode cL_sum 131 = .ok (.lload_n 1, 1) := by decide +kernel
theorem dL_sum_132 : decode cL_sum 132 = .ok (.lreturn, 1) := by decide +kernel
theorem dL_undone_0 : decode cL_undone 0 = .ok (.bipush 9, 2) := by decide +kernel
theorem dL_undone_2 : decode cL_undone 2 = .ok (.newarray .long, 2) := by decide +kernel
theorem dL_undone_4 : decode cL_undone 4 = .ok (.astore_n 2, 1) := by decide +kernel
theorem dL_undone_5 : decode cL_undone 5 = .ok (.iconst 0, 1) := by decide +kernel
theorem dL_undone_6 : decode cL_undone 6 = .ok (.istore_n 3, 1) := by decide +kernel
theorem dL_undone_7 : decode cL_undone 7 = .ok (.iconst 0, 1) := by decide +kernel
theorem dL_undone_8 : decode cL_undone 8 = .ok (.istore 4, 2) := by decide +kernel
theorem dL_undone_10 : decode cL_undone 10 = .ok (.iload 4, 2) := by decide +kernel
theorem dL_undone_12 : decode cL_undone 12 = .ok (.bipush 7, 2) := by decide +kernel
theorem dL_undone_14 : decode cL_undone 14 = .ok (.if_icmp .ge 347, 3) := by decide +kernel
theorem dL_undone_17 : decode cL_undone 17 = .ok (.aload_n 0, 1) := by decide +kernel
theorem dL_undone_18 : decode cL_undone 18 = .ok (.bipush 18, 2) := by decide +kernel
theorem dL_undone_20 : decode cL_undone 20 = .ok (.iload 4, 2) := by decide +kernel
theorem dL_undone_22 : decode cL_undone 22 = .ok (.iadd, 1) := by decide +kernel
theorem dL_undone_23 : decode cL_undone 23 = .ok (.invokestatic 127, 3) := by decide +kernel
theorem dL_undone_26 : decode cL_undone 26 = .ok (.iconst 1, 1) := by decide +kernel
theorem dL_undone_27 : decode cL_undone 27 = .ok (.iushr, 1) := by decide +kernel
theorem dL_undone_28 : decode cL_undone 28 = .ok (.istore 5, 2) := by decide +kernel
theorem dL_undone_30 : decode cL_undone 30 = .ok (.iload 5, 2) := by decide +kernel
theorem dL_undone_32 : decode cL_undone 32 = .ok (.iconst 4, 1) := by decide +kernel
theorem dL_undone_33 : decode cL_undone 33 = .ok (.iushr, 1) := by decide +kernel
theorem dL_undone_34 : decode cL_undone 34 = .ok (.istore 6, 2) := by decide +kernel
theorem dL_undone_36 : decode cL_undone 36 = .ok (.aload_n 2, 1) := by decide +kernel
theorem dL_undone_37 : decode cL_undone 37 = .ok (.iload_n 3, 1) := by decide +kernel
theorem dL_undone_38 : decode cL_undone 38 = .ok (.aload_n 1, 1) := by decide +kernel
theorem dL_undone_39 : decode cL_undone 39 = .ok (.invokestatic 306, 3) := by decide +kernel
theorem dL_undone_42 : decode cL_undone 42 = .ok (.lastore, 1) := by decide +kernel
theorem dL_undone_43 : decode cL_undone 43 = .ok (.iload 5, 2) := by decide +kernel
theorem dL_undone_45 : decode cL_undone 45 = .ok (.bipush 9, 2) := by decide +kernel
theorem dL_undone_47 : decode cL_undone 47 = .ok (.irem, 1) := by decide +kernel
theorem dL_undone_48 : decode cL_undone 48 = .ok (.tableswitch 186 0 7 #[48, 62, 82, 101, 129, 142, 151, 165], 48) := by decide +kernel
theorem dL_undone_96 : decode cL_undone 96 = .ok (.aload_n 1, 1) := by decide +kernel
theorem dL_undone_97 : decode cL_undone 97 = .ok (.iload 6, 2) := by decide +kernel
theorem dL_undone_99 : decode cL_undone 99 = .ok (.bipush 10, 2) := by decide +kernel
theorem dL_undone_101 : decode cL_undone 101 = .ok (.irem, 1) := by decide +kernel
theorem dL_undone_102 : decode cL_undone 102 = .ok (.invokestatic 131, 3) := by decide +kernel
theorem dL_undone_105 : decode cL_undone 105 = .ok (.istore 7, 2) := by decide +kernel
theorem dL_undone_107 : decode cL_undone 107 = .ok (.goto 217, 3) := by decide +kernel
theorem dL_undone_110 : decode cL_undone 110 = .ok (.aload_n 1, 1) := by decide +kernel
theorem dL_undone_111 : decode cL_undone 111 = .ok (.iload 6, 2) := by decide +kernel
theorem dL_undone_113 : decode cL_undone 113 = .ok (.iconst 5, 1) := by decide +kernel
theorem dL_undone_114 : decode cL_undone 114 = .ok (.irem, 1) := by decide +kernel
theorem dL_undone_115 : decode cL_undone 115 = .ok (.iload 6, 2) := by decide +kernel
theorem dL_undone_117 : decode cL_undone 117 = .ok (.iconst 3, 1) := by decide +kernel
theorem dL_undone_118 : decode cL_undone 118 = .ok (.iushr, 1) := by decide +kernel
theorem dL_undone_119 : decode cL_undone 119 = .ok (.bipush 13, 2) := by decide +kernel
theorem dL_undone_121 : decode cL_undone 121 = .ok (.irem, 1) := by decide +kernel
theorem dL_undone_122 : decode cL_undone 122 = .ok (.invokestatic 134, 3) := by decide +kernel
theorem dL_undone_125 : decode cL_undone 125 = .ok (.istore 7, 2) := by decide +kernel
theorem dL_undone_127 : decode cL_undone 127 = .ok (.goto 197, 3) := by decide +kernel
theorem dL_undone_130 : decode cL_undone 130 = .ok (.aload_n 1, 1) := by decide +kernel
theorem dL_undone_131 : decode cL_undone 131 = .ok (.iload 6, 2) := by decide +kernel
theorem dL_undone_133 : decode cL_undone 133 = .ok (.iconst 5, 1) := by decide +kernel
theorem dL_undone_134 : decode cL_undone 134 = .ok (.irem, 1) := by decide +kernel
theorem dL_undone_135 : decode cL_undone 135 = .ok (.iload 6, 2) := by decide +kernel
theorem dL_undone_137 : decode cL_undone 137 = .ok (.iconst 3, 1) := by decide +kernel
theorem dL_undone_138 : decode cL_undone 138 = .ok (.iushr, 1) := by decide +kernel
theorem dL_undone_139 : decode cL_undone 139 = .ok (.iconst 5, 1) := by decide +kernel
theorem dL_undone_140 : decode cL_undone 140 = .ok (.irem, 1) := by decide +kernel
theorem dL_undone_141 : decode cL_undone 141 = .ok (.invokestatic 137, 3) := by decide +kernel
theorem dL_undone_144 : decode cL_undone 144 = .ok (.istore 7, 2) := by decide +kernel
theorem dL_undone_146 : decode cL_undone 146 = .ok (.goto 178, 3) := by decide +kernel
theorem dL_undone_149 : decode cL_undone 149 = .ok (.aload_n 1, 1) := by decide +kernel
theorem dL_undone_150 : decode cL_undone 150 = .ok (.iload 6, 2) := by decide +kernel
theorem dL_undone_152 : decode cL_undone 152 = .ok (.iconst 5, 1) := by decide +kernel
theorem dL_undone_153 : decode cL_undone 153 = .ok (.irem, 1) := by decide +kernel
theorem dL_undone_154 : decode cL_undone 154 = .ok (.iload 6, 2) := by decide +kernel
theorem dL_undone_156 : decode cL_undone 156 = .ok (.iconst 3, 1) := by decide +kernel
theorem dL_undone_157 : decode cL_undone 157 = .ok (.iushr, 1) := by decide +kernel
theorem dL_undone_158 : decode cL_undone 158 = .ok (.bipush 11, 2) := by decide +kernel
theorem dL_undone_160 : decode cL_undone 160 = .ok (.irem, 1) := by decide +kernel
theorem dL_undone_161 : decode cL_undone 161 = .ok (.iload 6, 2) := by decide +kernel
theorem dL_undone_163 : decode cL_undone 163 = .ok (.bipush 7, 2) := by decide +kernel
theorem dL_undone_165 : decode cL_undone 165 = .ok (.iushr, 1) := by decide +kernel
theorem dL_undone_166 : decode cL_undone 166 = .ok (.bipush 10, 2) := by decide +kernel
theorem dL_undone_168 : decode cL_undone 168 = .ok (.irem, 1) := by decide +kernel
theorem dL_undone_169 : decode cL_undone 169 = .ok (.invokestatic 141, 3) := by decide +kernel
theorem dL_undone_172 : decode cL_undone 172 = .ok (.istore 7, 2) := by decide +kernel
theorem dL_undone_174 : decode cL_undone 174 = .ok (.goto 150, 3) := by decide +kernel
theorem dL_undone_177 : decode cL_undone 177 = .ok (.aload_n 1, 1) := by decide +kernel
theorem dL_undone_178 : decode cL_undone 178 = .ok (.iload 6, 2) := by decide +kernel
theorem dL_undone_180 : decode cL_undone 180 = .ok (.iconst 5, 1) := by decide +kernel
theorem dL_undone_181 : decode cL_undone 181 = .ok (.irem, 1) := by decide +kernel
theorem dL_undone_182 : decode cL_undone 182 = .ok (.invokestatic 139, 3) := by decide +kernel
theorem dL_undone_185 : decode cL_undone 185 = .ok (.istore 7, 2) := by decide +kernel
theorem dL_undone_187 : decode cL_undone 187 = .ok (.goto 137, 3) := by decide +kernel
theorem dL_undone_190 : decode cL_undone 190 = .ok (.aload_n 1, 1) := by decide +kernel
theorem dL_undone_191 : decode cL_undone 191 = .ok (.invokestatic 310, 3) := by decide +kernel
theorem dL_undone_194 : decode cL_undone 194 = .ok (.istore 7, 2) := by decide +kernel
theorem dL_undone_196 : decode cL_undone 196 = .ok (.goto 128, 3) := by decide +kernel
theorem dL_undone_199 : decode cL_undone 199 = .ok (.aload_n 1, 1) := by decide +kernel
theorem dL_undone_200 : decode cL_undone 200 = .ok (.iload 6, 2) := by decide +kernel
theorem dL_undone_202 : decode cL_undone 202 = .ok (.bipush 13, 2) := by decide +kernel
theorem dL_undone_204 : decode cL_undone 204 = .ok (.irem, 1) := by decide +kernel
theorem dL_undone_205 : decode cL_undone 205 = .ok (.invokestatic 150, 3) := by decide +kernel
theorem dL_undone_208 : decode cL_undone 208 = .ok (.istore 7, 2) := by decide +kernel
theorem dL_undone_210 : decode cL_undone 210 = .ok (.goto 114, 3) := by decide +kernel
theorem dL_undone_213 : decode cL_undone 213 = .ok (.aload_n 1, 1) := by decide +kernel
theorem dL_undone_214 : decode cL_undone 214 = .ok (.iload 6, 2) := by decide +kernel
theorem dL_undone_216 : decode cL_undone 216 = .ok (.bipush 17, 2) := by decide +kernel
theorem dL_undone_218 : decode cL_undone 218 = .ok (.irem, 1) := by decide +kernel
theorem dL_undone_219 : decode cL_undone 219 = .ok (.iload 6, 2) := by decide +kernel
theorem dL_undone_221 : decode cL_undone 221 = .ok (.iconst 5, 1) := by decide +kernel
theorem dL_undone_222 : decode cL_undone 222 = .ok (.iushr, 1) := by decide +kernel
theorem dL_undone_223 : decode cL_undone 223 = .ok (.bipush 11, 2) := by decide +kernel
theorem dL_undone_225 : decode cL_undone 225 = .ok (.irem, 1) := by decide +kernel
theorem dL_undone_226 : decode cL_undone 226 = .ok (.invokestatic 312, 3) := by decide +kernel
theorem dL_undone_229 : decode cL_undone 229 = .ok (.istore 7, 2) := by decide +kernel
theorem dL_undone_231 : decode cL_undone 231 = .ok (.goto 93, 3) := by decide +kernel
theorem dL_undone_234 : decode cL_undone 234 = .ok (.aload_n 1, 1) := by decide +kernel
theorem dL_undone_235 : decode cL_undone 235 = .ok (.new 264, 3) := by decide +kernel
theorem dL_undone_238 : decode cL_undone 238 = .ok (.dup, 1) := by decide +kernel
theorem dL_undone_239 : decode cL_undone 239 = .ok (.invokespecial 266, 3) := by decide +kernel
theorem dL_undone_242 : decode cL_undone 242 = .ok (.ldc_w 314, 3) := by decide +kernel
theorem dL_undone_245 : decode cL_undone 245 = .ok (.invokevirtual 267, 3) := by decide +kernel
theorem dL_undone_248 : decode cL_undone 248 = .ok (.iload 6, 2) := by decide +kernel
theorem dL_undone_250 : decode cL_undone 250 = .ok (.iconst 4, 1) := by decide +kernel
theorem dL_undone_251 : decode cL_undone 251 = .ok (.irem, 1) := by decide +kernel
theorem dL_undone_252 : decode cL_undone 252 = .ok (.invokevirtual 275, 3) := by decide +kernel
theorem dL_undone_255 : decode cL_undone 255 = .ok (.ldc_w 316, 3) := by decide +kernel
theorem dL_undone_258 : decode cL_undone 258 = .ok (.invokevirtual 267, 3) := by decide +kernel
theorem dL_undone_261 : decode cL_undone 261 = .ok (.iload 5, 2) := by decide +kernel
theorem dL_undone_263 : decode cL_undone 263 = .ok (.bipush 18, 2) := by decide +kernel
theorem dL_undone_265 : decode cL_undone 265 = .ok (.irem, 1) := by decide +kernel
theorem dL_undone_266 : decode cL_undone 266 = .ok (.bipush 9, 2) := by decide +kernel
theorem dL_undone_268 : decode cL_undone 268 = .ok (.if_icmp .ge 9, 3) := by decide +kernel
theorem dL_undone_271 : decode cL_undone 271 = .ok (.ldc_w 262, 3) := by decide +kernel
theorem dL_undone_274 : decode cL_undone 274 = .ok (.goto 33, 3) := by decide +kernel
theorem dL_undone_277 : decode cL_undone 277 = .ok (.new 264, 3) := by decide +kernel
theorem dL_undone_280 : decode cL_undone 280 = .ok (.dup, 1) := by decide +kernel
theorem dL_undone_281 : decode cL_undone 281 = .ok (.invokespecial 266, 3) := by decide +kernel
theorem dL_undone_284 : decode cL_undone 284 = .ok (.ldc_w 318, 3) := by decide +kernel
theorem dL_undone_287 : decode cL_undone 287 = .ok (.invokevirtual 267, 3) := by decide +kernel
theorem dL_undone_290 : decode cL_undone 290 = .ok (.iload 6, 2) := by decide +kernel
theorem dL_undone_292 : decode cL_undone 292 = .ok (.bipush 16, 2) := by decide +kernel
theorem dL_undone_294 : decode cL_undone 294 = .ok (.irem, 1) := by decide +kernel
theorem dL_undone_295 : decode cL_undone 295 = .ok (.invokevirtual 275, 3) := by decide +kernel
theorem dL_undone_298 : decode cL_undone 298 = .ok (.ldc_w 320, 3) := by decide +kernel
theorem dL_undone_301 : decode cL_undone 301 = .ok (.invokevirtual 267, 3) := by decide +kernel
theorem dL_undone_304 : decode cL_undone 304 = .ok (.invokevirtual 280, 3) := by decide +kernel
theorem dL_undone_307 : decode cL_undone 307 = .ok (.invokevirtual 267, 3) := by decide +kernel
theorem dL_undone_310 : decode cL_undone 310 = .ok (.ldc_w 322, 3) := by decide +kernel
theorem dL_undone_313 : decode cL_undone 313 = .ok (.invokevirtual 267, 3) := by decide +kernel
theorem dL_undone_316 : decode cL_undone 316 = .ok (.invokevirtual 280, 3) := by decide +kernel
theorem dL_undone_319 : decode cL_undone 319 = .ok (.invokestatic 324, 3) := by decide +kernel
theorem dL_undone_322 : decode cL_undone 322 = .ok (.istore 7, 2) := by decide +kernel
theorem dL_undone_324 : decode cL_undone 324 = .ok (.iload 7, 2) := by decide +kernel
theorem dL_undone_326 : decode cL_undone 326 = .ok (.ifCond .ge 16, 3) := by decide +kernel
theorem dL_undone_329 : decode cL_undone 329 = .ok (.aload_n 1, 1) := by decide +kernel
theorem dL_undone_330 : decode cL_undone 330 = .ok (.invokestatic 306, 3) := by decide +kernel
theorem dL_undone_333 : decode cL_undone 333 = .ok (.aload_n 2, 1) := by decide +kernel
theorem dL_undone_334 : decode cL_undone 334 = .ok (.iload_n 3, 1) := by decide +kernel
theorem dL_undone_335 : decode cL_undone 335 = .ok (.laload, 1) := by decide +kernel
theorem dL_undone_336 : decode cL_undone 336 = .ok (.lcmp, 1) := by decide +kernel
theorem dL_undone_337 : decode cL_undone 337 = .ok (.ifCond .eq 5, 3) := by decide +kernel
theorem dL_undone_340 : decode cL_undone 340 = .ok (.iconst 0, 1) := by decide +kernel
theorem dL_undone_341 : decode cL_undone 341 = .ok (.ireturn, 1) := by decide +kernel
theorem dL_undone_342 : decode cL_undone 342 = .ok (.iload_n 3, 1) := by decide +kernel
theorem dL_undone_343 : decode cL_undone 343 = .ok (.iload 7, 2) := by decide +kernel
theorem dL_undone_345 : decode cL_undone 345 = .ok (.ifCond .ge 7, 3) := by decide +kernel
theorem dL_undone_348 : decode cL_undone 348 = .ok (.iconst 0, 1) := by decide +kernel
theorem dL_undone_349 : decode cL_undone 349 = .ok (.goto 4, 3) := by decide +kernel
theorem dL_undone_352 : decode cL_undone 352 = .ok (.iconst 1, 1) := by decide +kernel
theorem dL_undone_353 : decode cL_undone 353 = .ok (.iadd, 1) := by decide +kernel
theorem dL_undone_354 : decode cL_undone 354 = .ok (.istore_n 3, 1) := by decide +kernel
theorem dL_undone_355 : decode cL_undone 355 = .ok (.iinc 4 1, 3) := by decide +kernel
theorem dL_undone_358 : decode cL_undone 358 = .ok (.goto (-348), 3) := by decide +kernel
theorem dL_undone_361 : decode cL_undone 361 = .ok (.iload_n 3, 1) := by decide +kernel
theorem dL_undone_362 : decode cL_undone 362 = .ok (.iconst 1, 1) := by decide +kernel
theorem dL_undone_363 : decode cL_undone 363 = .ok (.isub, 1) := by decide +kernel
theorem dL_undone_364 : decode cL_undone 364 = .ok (.istore 4, 2) := by decide +kernel
theorem dL_undone_366 : decode cL_undone 366 = .ok (.iload 4, 2) := by decide +kernel
theorem dL_undone_368 : decode cL_undone 368 = .ok (.ifCond .lt 30, 3) := by decide +kernel
theorem dL_undone_371 : decode cL_undone 371 = .ok (.aload_n 1, 1) := by decide +kernel
theorem dL_undone_372 : decode cL_undone 372 = .ok (.invokestatic 327, 3) := by decide +kernel
theorem dL_undone_375 : decode cL_undone 375 = .ok (.ifCond .lt 15, 3) := by decide +kernel
theorem dL_undone_378 : decode cL_undone 378 = .ok (.aload_n 1, 1) := by decide +kernel
theorem dL_undone_379 : decode cL_undone 379 = .ok (.invokestatic 306, 3) := by decide +kernel
theorem dL_undone_382 : decode cL_undone 382 = .ok (.aload_n 2, 1) := by decide +kernel
theorem dL_undone_383 : decode cL_undone 383 = .ok (.iload 4, 2) := by decide +kernel
theorem dL_undone_385 : decode cL_undone 385 = .ok (.laload, 1) := by decide +kernel
theorem dL_undone_386 : decode cL_undone 386 = .ok (.lcmp, 1) := by decide +kernel
theorem dL_undone_387 : decode cL_undone 387 = .ok (.ifCond .eq 5, 3) := by decide +kernel
theorem dL_undone_390 : decode cL_undone 390 = .ok (.iconst 0, 1) := by decide +kernel
theorem dL_undone_391 : decode cL_undone 391 = .ok (.ireturn, 1) := by decide +kernel
theorem dL_undone_392 : decode cL_undone 392 = .ok (.iinc 4 (-1), 3) := by decide +kernel
theorem dL_undone_395 : decode cL_undone 395 = .ok (.goto (-29), 3) := by decide +kernel
theorem dL_undone_398 : decode cL_undone 398 = .ok (.iconst 1, 1) := by decide +kernel
theorem dL_undone_399 : decode cL_undone 399 = .ok (.ireturn, 1) := by decide +kernel
