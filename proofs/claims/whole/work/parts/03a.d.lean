theorem dX0_count_0 : decode cX0_count 0 = .ok (.iconst 0, 1) := by decide +kernel
theorem dX0_count_1 : decode cX0_count 1 = .ok (.istore_n 1, 1) := by decide +kernel
theorem dX0_count_2 : decode cX0_count 2 = .ok (.iconst 0, 1) := by decide +kernel
theorem dX0_count_3 : decode cX0_count 3 = .ok (.istore_n 2, 1) := by decide +kernel
theorem dX0_count_4 : decode cX0_count 4 = .ok (.iload_n 2, 1) := by decide +kernel
theorem dX0_count_5 : decode cX0_count 5 = .ok (.aload_n 0, 1) := by decide +kernel
theorem dX0_count_6 : decode cX0_count 6 = .ok (.invokevirtual 7, 3) := by decide +kernel
theorem dX0_count_9 : decode cX0_count 9 = .ok (.if_icmp .ge 21, 3) := by decide +kernel
theorem dX0_count_12 : decode cX0_count 12 = .ok (.aload_n 0, 1) := by decide +kernel
theorem dX0_count_13 : decode cX0_count 13 = .ok (.iload_n 2, 1) := by decide +kernel
theorem dX0_count_14 : decode cX0_count 14 = .ok (.invokestatic 13, 3) := by decide +kernel
theorem dX0_count_17 : decode cX0_count 17 = .ok (.iload_n 2, 1) := by decide +kernel
theorem dX0_count_18 : decode cX0_count 18 = .ok (.if_icmp .ne 6, 3) := by decide +kernel
theorem dX0_count_21 : decode cX0_count 21 = .ok (.iinc 1 1, 3) := by decide +kernel
theorem dX0_count_24 : decode cX0_count 24 = .ok (.iinc 2 1, 3) := by decide +kernel
theorem dX0_count_27 : decode cX0_count 27 = .ok (.goto (-23), 3) := by decide +kernel
theorem dX0_count_30 : decode cX0_count 30 = .ok (.iload_n 1, 1) := by decide +kernel
theorem dX0_count_31 : decode cX0_count 31 = .ok (.ireturn, 1) := by decide +kernel
theorem dX0_fixed_0 : decode cX0_fixed 0 = .ok (.iconst 0, 1) := by decide +kernel
theorem dX0_fixed_1 : decode cX0_fixed 1 = .ok (.istore_n 1, 1) := by decide +kernel
theorem dX0_fixed_2 : decode cX0_fixed 2 = .ok (.iconst 0, 1) := by decide +kernel
theorem dX0_fixed_3 : decode cX0_fixed 3 = .ok (.istore_n 2, 1) := by decide +kernel
theorem dX0_fixed_4 : decode cX0_fixed 4 = .ok (.iload_n 2, 1) := by decide +kernel
theorem dX0_fixed_5 : decode cX0_fixed 5 = .ok (.aload_n 0, 1) := by decide +kernel
theorem dX0_fixed_6 : decode cX0_fixed 6 = .ok (.invokevirtual 7, 3) := by decide +kernel
theorem dX0_fixed_9 : decode cX0_fixed 9 = .ok (.if_icmp .ge 21, 3) := by decide +kernel
theorem dX0_fixed_12 : decode cX0_fixed 12 = .ok (.aload_n 0, 1) := by decide +kernel
theorem dX0_fixed_13 : decode cX0_fixed 13 = .ok (.iload_n 2, 1) := by decide +kernel
theorem dX0_fixed_14 : decode cX0_fixed 14 = .ok (.invokevirtual 19, 3) := by decide +kernel
theorem dX0_fixed_17 : decode cX0_fixed 17 = .ok (.iload_n 2, 1) := by decide +kernel
theorem dX0_fixed_18 : decode cX0_fixed 18 = .ok (.if_icmp .ne 6, 3) := by decide +kernel
theorem dX0_fixed_21 : decode cX0_fixed 21 = .ok (.iinc 1 1, 3) := by decide +kernel
theorem dX0_fixed_24 : decode cX0_fixed 24 = .ok (.iinc 2 1, 3) := by decide +kernel
theorem dX0_fixed_27 : decode cX0_fixed 27 = .ok (.goto (-23), 3) := by decide +kernel
theorem dX0_fixed_30 : decode cX0_fixed 30 = .ok (.iload_n 1, 1) := by decide +kernel
theorem dX0_fixed_31 : decode cX0_fixed 31 = .ok (.ireturn, 1) := by decide +kernel
theorem dX0_longest_0 : decode cX0_longest 0 = .ok (.iconst 0, 1) := by decide +kernel
theorem dX0_longest_1 : decode cX0_longest 1 = .ok (.istore_n 1, 1) := by decide +kernel
theorem dX0_longest_2 : decode cX0_longest 2 = .ok (.iconst 0, 1) := by decide +kernel
theorem dX0_longest_3 : decode cX0_longest 3 = .ok (.istore_n 2, 1) := by decide +kernel
theorem dX0_longest_4 : decode cX0_longest 4 = .ok (.iload_n 2, 1) := by decide +kernel
theorem dX0_longest_5 : decode cX0_longest 5 = .ok (.aload_n 0, 1) := by decide +kernel
theorem dX0_longest_6 : decode cX0_longest 6 = .ok (.invokevirtual 7, 3) := by decide +kernel
theorem dX0_longest_9 : decode cX0_longest 9 = .ok (.if_icmp .ge 19, 3) := by decide +kernel
theorem dX0_longest_12 : decode cX0_longest 12 = .ok (.iload_n 1, 1) := by decide +kernel
theorem dX0_longest_13 : decode cX0_longest 13 = .ok (.aload_n 0, 1) := by decide +kernel
theorem dX0_longest_14 : decode cX0_longest 14 = .ok (.iload_n 2, 1) := by decide +kernel
theorem dX0_longest_15 : decode cX0_longest 15 = .ok (.invokestatic 23, 3) := by decide +kernel
theorem dX0_longest_18 : decode cX0_longest 18 = .ok (.invokestatic 26, 3) := by decide +kernel
theorem dX0_longest_21 : decode cX0_longest 21 = .ok (.istore_n 1, 1) := by decide +kernel
theorem dX0_longest_22 : decode cX0_longest 22 = .ok (.iinc 2 1, 3) := by decide +kernel
theorem dX0_longest_25 : decode cX0_longest 25 = .ok (.goto (-21), 3) := by decide +kernel
theorem dX0_longest_28 : decode cX0_longest 28 = .ok (.iload_n 1, 1) := by decide +kernel
theorem dX0_longest_29 : decode cX0_longest 29 = .ok (.ireturn, 1) := by decide +kernel
theorem dX0_placementPeriod_0 : decode cX0_placementPeriod 0 = .ok (.iconst 1, 1) := by decide +kernel
theorem dX0_placementPeriod_1 : decode cX0_placementPeriod 1 = .ok (.istore_n 1, 1) := by decide +kernel
theorem dX0_placementPeriod_2 : decode cX0_placementPeriod 2 = .ok (.iconst 0, 1) := by decide +kernel
theorem dX0_placementPeriod_3 : decode cX0_placementPeriod 3 = .ok (.istore_n 2, 1) := by decide +kernel
theorem dX0_placementPeriod_4 : decode cX0_placementPeriod 4 = .ok (.iload_n 2, 1) := by decide +kernel
theorem dX0_placementPeriod_5 : decode cX0_placementPeriod 5 = .ok (.aload_n 0, 1) := by decide +kernel
theorem dX0_placementPeriod_6 : decode cX0_placementPeriod 6 = .ok (.invokevirtual 7, 3) := by decide +kernel
theorem dX0_placementPeriod_9 : decode cX0_placementPeriod 9 = .ok (.if_icmp .ge 19, 3) := by decide +kernel
theorem dX0_placementPeriod_12 : decode cX0_placementPeriod 12 = .ok (.iload_n 1, 1) := by decide +kernel
theorem dX0_placementPeriod_13 : decode cX0_placementPeriod 13 = .ok (.aload_n 0, 1) := by decide +kernel
theorem dX0_placementPeriod_14 : decode cX0_placementPeriod 14 = .ok (.iload_n 2, 1) := by decide +kernel
theorem dX0_placementPeriod_15 : decode cX0_placementPeriod 15 = .ok (.invokestatic 23, 3) := by decide +kernel
theorem dX0_placementPeriod_18 : decode cX0_placementPeriod 18 = .ok (.invokestatic 32, 3) := by decide +kernel
theorem dX0_placementPeriod_21 : decode cX0_placementPeriod 21 = .ok (.istore_n 1, 1) := by decide +kernel
theorem dX0_placementPeriod_22 : decode cX0_placementPeriod 22 = .ok (.iinc 2 1, 3) := by decide +kernel
theorem dX0_placementPeriod_25 : decode cX0_placementPeriod 25 = .ok (.goto (-21), 3) := by decide +kernel
theorem dX0_placementPeriod_28 : decode cX0_placementPeriod 28 = .ok (.iload_n 1, 1) := by decide +kernel
theorem dX0_placementPeriod_29 : decode cX0_placementPeriod 29 = .ok (.ireturn, 1) := by decide +kernel
theorem dX0_fullPeriod_0 : decode cX0_fullPeriod 0 = .ok (.iconst 1, 1) := by decide +kernel
theorem dX0_fullPeriod_1 : decode cX0_fullPeriod 1 = .ok (.istore_n 1, 1) := by decide +kernel
theorem dX0_fullPeriod_2 : decode cX0_fullPeriod 2 = .ok (.iconst 0, 1) := by decide +kernel
theorem dX0_fullPeriod_3 : decode cX0_fullPeriod 3 = .ok (.istore_n 2, 1) := by decide +kernel
theorem dX0_fullPeriod_4 : decode cX0_fullPeriod 4 = .ok (.iload_n 2, 1) := by decide +kernel
theorem dX0_fullPeriod_5 : decode cX0_fullPeriod 5 = .ok (.aload_n 0, 1) := by decide +kernel
theorem dX0_fullPeriod_6 : decode cX0_fullPeriod 6 = .ok (.invokevirtual 7, 3) := by decide +kernel
theorem dX0_fullPeriod_9 : decode cX0_fullPeriod 9 = .ok (.if_icmp .ge 35, 3) := by decide +kernel
theorem dX0_fullPeriod_12 : decode cX0_fullPeriod 12 = .ok (.aload_n 0, 1) := by decide +kernel
theorem dX0_fullPeriod_13 : decode cX0_fullPeriod 13 = .ok (.iload_n 2, 1) := by decide +kernel
theorem dX0_fullPeriod_14 : decode cX0_fullPeriod 14 = .ok (.invokestatic 35, 3) := by decide +kernel
theorem dX0_fullPeriod_17 : decode cX0_fullPeriod 17 = .ok (.ifCond .eq 7, 3) := by decide +kernel
theorem dX0_fullPeriod_20 : decode cX0_fullPeriod 20 = .ok (.iconst 2, 1) := by decide +kernel
theorem dX0_fullPeriod_21 : decode cX0_fullPeriod 21 = .ok (.goto 4, 3) := by decide +kernel
theorem dX0_fullPeriod_24 : decode cX0_fullPeriod 24 = .ok (.iconst 1, 1) := by decide +kernel
theorem dX0_fullPeriod_25 : decode cX0_fullPeriod 25 = .ok (.istore_n 3, 1) := by decide +kernel
theorem dX0_fullPeriod_26 : decode cX0_fullPeriod 26 = .ok (.iload_n 1, 1) := by decide +kernel
theorem dX0_fullPeriod_27 : decode cX0_fullPeriod 27 = .ok (.iload_n 3, 1) := by decide +kernel
theorem dX0_fullPeriod_28 : decode cX0_fullPeriod 28 = .ok (.aload_n 0, 1) := by decide +kernel
theorem dX0_fullPeriod_29 : decode cX0_fullPeriod 29 = .ok (.iload_n 2, 1) := by decide +kernel
theorem dX0_fullPeriod_30 : decode cX0_fullPeriod 30 = .ok (.invokestatic 23, 3) := by decide +kernel
theorem dX0_fullPeriod_33 : decode cX0_fullPeriod 33 = .ok (.imul, 1) := by decide +kernel
theorem dX0_fullPeriod_34 : decode cX0_fullPeriod 34 = .ok (.invokestatic 32, 3) := by decide +kernel
theorem dX0_fullPeriod_37 : decode cX0_fullPeriod 37 = .ok (.istore_n 1, 1) := by decide +kernel
theorem dX0_fullPeriod_38 : decode cX0_fullPeriod 38 = .ok (.iinc 2 1, 3) := by decide +kernel
theorem dX0_fullPeriod_41 : decode cX0_fullPeriod 41 = .ok (.goto (-37), 3) := by decide +kernel
theorem dX0_fullPeriod_44 : decode cX0_fullPeriod 44 = .ok (.iload_n 1, 1) := by decide +kernel
theorem dX0_fullPeriod_45 : decode cX0_fullPeriod 45 = .ok (.ireturn, 1) := by decide +kernel
theorem dX0_leastOf_0 : decode cX0_leastOf 0 = .ok (.iload_n 1, 1) := by decide +kernel
theorem dX0_leastOf_1 : decode cX0_leastOf 1 = .ok (.istore_n 2, 1) := by decide +kernel
theorem dX0_leastOf_2 : decode cX0_leastOf 2 = .ok (.iload_n 1, 1) := by decide +kernel
theorem dX0_leastOf_3 : decode cX0_leastOf 3 = .ok (.istore_n 3, 1) := by decide +kernel
theorem dX0_leastOf_4 : decode cX0_leastOf 4 = .ok (.iconst 0, 1) := by decide +kernel
theorem dX0_leastOf_5 : decode cX0_leastOf 5 = .ok (.istore 4, 2) := by decide +kernel
theorem dX0_leastOf_7 : decode cX0_leastOf 7 = .ok (.iload 4, 2) := by decide +kernel
theorem dX0_leastOf_9 : decode cX0_leastOf 9 = .ok (.aload_n 0, 1) := by decide +kernel
theorem dX0_leastOf_10 : decode cX0_leastOf 10 = .ok (.invokevirtual 7, 3) := by decide +kernel
theorem dX0_leastOf_13 : decode cX0_leastOf 13 = .ok (.if_icmp .ge 21, 3) := by decide +kernel
theorem dX0_leastOf_16 : decode cX0_leastOf 16 = .ok (.aload_n 0, 1) := by decide +kernel
theorem dX0_leastOf_17 : decode cX0_leastOf 17 = .ok (.iload_n 3, 1) := by decide +kernel
theorem dX0_leastOf_18 : decode cX0_leastOf 18 = .ok (.invokevirtual 19, 3) := by decide +kernel
theorem dX0_leastOf_21 : decode cX0_leastOf 21 = .ok (.istore_n 3, 1) := by decide +kernel
theorem dX0_leastOf_22 : decode cX0_leastOf 22 = .ok (.iload_n 2, 1) := by decide +kernel
theorem dX0_leastOf_23 : decode cX0_leastOf 23 = .ok (.iload_n 3, 1) := by decide +kernel
theorem dX0_leastOf_24 : decode cX0_leastOf 24 = .ok (.invokestatic 39, 3) := by decide +kernel
theorem dX0_leastOf_27 : decode cX0_leastOf 27 = .ok (.istore_n 2, 1) := by decide +kernel
theorem dX0_leastOf_28 : decode cX0_leastOf 28 = .ok (.iinc 4 1, 3) := by decide +kernel
theorem dX0_leastOf_31 : decode cX0_leastOf 31 = .ok (.goto (-24), 3) := by decide +kernel
theorem dX0_leastOf_34 : decode cX0_leastOf 34 = .ok (.iload_n 2, 1) := by decide +kernel
theorem dX0_leastOf_35 : decode cX0_leastOf 35 = .ok (.ireturn, 1) := by decide +kernel
theorem dX0_lengthOf_0 : decode cX0_lengthOf 0 = .ok (.aload_n 0, 1) := by decide +kernel
theorem dX0_lengthOf_1 : decode cX0_lengthOf 1 = .ok (.iload_n 1, 1) := by decide +kernel
theorem dX0_lengthOf_2 : decode cX0_lengthOf 2 = .ok (.invokevirtual 19, 3) := by decide +kernel
theorem dX0_lengthOf_5 : decode cX0_lengthOf 5 = .ok (.istore_n 2, 1) := by decide +kernel
theorem dX0_lengthOf_6 : decode cX0_lengthOf 6 = .ok (.iconst 1, 1) := by decide +kernel
theorem dX0_lengthOf_7 : decode cX0_lengthOf 7 = .ok (.istore_n 3, 1) := by decide +kernel
theorem dX0_lengthOf_8 : decode cX0_lengthOf 8 = .ok (.iload_n 2, 1) := by decide +kernel
theorem dX0_lengthOf_9 : decode cX0_lengthOf 9 = .ok (.iload_n 1, 1) := by decide +kernel
theorem dX0_lengthOf_10 : decode cX0_lengthOf 10 = .ok (.if_icmp .eq 23, 3) := by decide +kernel
theorem dX0_lengthOf_13 : decode cX0_lengthOf 13 = .ok (.iload_n 3, 1) := by decide +kernel
theorem dX0_lengthOf_14 : decode cX0_lengthOf 14 = .ok (.aload_n 0, 1) := by decide +kernel
theorem dX0_lengthOf_15 : decode cX0_lengthOf 15 = .ok (.invokevirtual 7, 3) := by decide +kernel
theorem dX0_lengthOf_18 : decode cX0_lengthOf 18 = .ok (.if_icmp .ge 15, 3) := by decide +kernel
theorem dX0_lengthOf_21 : decode cX0_lengthOf 21 = .ok (.aload_n 0, 1) := by decide +kernel
theorem dX0_lengthOf_22 : decode cX0_lengthOf 22 = .ok (.iload_n 2, 1) := by decide +kernel
theorem dX0_lengthOf_23 : decode cX0_lengthOf 23 = .ok (.invokevirtual 19, 3) := by decide +kernel
theorem dX0_lengthOf_26 : decode cX0_lengthOf 26 = .ok (.istore_n 2, 1) := by decide +kernel
theorem dX0_lengthOf_27 : decode cX0_lengthOf 27 = .ok (.iinc 3 1, 3) := by decide +kernel
theorem dX0_lengthOf_30 : decode cX0_lengthOf 30 = .ok (.goto (-22), 3) := by decide +kernel
theorem dX0_lengthOf_33 : decode cX0_lengthOf 33 = .ok (.iload_n 3, 1) := by decide +kernel
theorem dX0_lengthOf_34 : decode cX0_lengthOf 34 = .ok (.ireturn, 1) := by decide +kernel
theorem dX0_turnsOver_0 : decode cX0_turnsOver 0 = .ok (.iconst 0, 1) := by decide +kernel
theorem dX0_turnsOver_1 : decode cX0_turnsOver 1 = .ok (.istore_n 2, 1) := by decide +kernel
theorem dX0_turnsOver_2 : decode cX0_turnsOver 2 = .ok (.iload_n 1, 1) := by decide +kernel
theorem dX0_turnsOver_3 : decode cX0_turnsOver 3 = .ok (.istore_n 3, 1) := by decide +kernel
theorem dX0_turnsOver_4 : decode cX0_turnsOver 4 = .ok (.aload_n 0, 1) := by decide +kernel
theorem dX0_turnsOver_5 : decode cX0_turnsOver 5 = .ok (.iload_n 1, 1) := by decide +kernel
theorem dX0_turnsOver_6 : decode cX0_turnsOver 6 = .ok (.invokestatic 23, 3) := by decide +kernel
theorem dX0_turnsOver_9 : decode cX0_turnsOver 9 = .ok (.istore 4, 2) := by decide +kernel
theorem dX0_turnsOver_11 : decode cX0_turnsOver 11 = .ok (.iconst 0, 1) := by decide +kernel
theorem dX0_turnsOver_12 : decode cX0_turnsOver 12 = .ok (.istore 5, 2) := by decide +kernel
theorem dX0_turnsOver_14 : decode cX0_turnsOver 14 = .ok (.iload 5, 2) := by decide +kernel
theorem dX0_turnsOver_16 : decode cX0_turnsOver 16 = .ok (.iload 4, 2) := by decide +kernel
theorem dX0_turnsOver_18 : decode cX0_turnsOver 18 = .ok (.if_icmp .ge 30, 3) := by decide +kernel
theorem dX0_turnsOver_21 : decode cX0_turnsOver 21 = .ok (.iload_n 2, 1) := by decide +kernel
theorem dX0_turnsOver_22 : decode cX0_turnsOver 22 = .ok (.aload_n 0, 1) := by decide +kernel
theorem dX0_turnsOver_23 : decode cX0_turnsOver 23 = .ok (.iload_n 3, 1) := by decide +kernel
theorem dX0_turnsOver_24 : decode cX0_turnsOver 24 = .ok (.invokevirtual 42, 3) := by decide +kernel
theorem dX0_turnsOver_27 : decode cX0_turnsOver 27 = .ok (.if_icmp .eq 7, 3) := by decide +kernel
theorem dX0_turnsOver_30 : decode cX0_turnsOver 30 = .ok (.iconst 1, 1) := by decide +kernel
theorem dX0_turnsOver_31 : decode cX0_turnsOver 31 = .ok (.goto 4, 3) := by decide +kernel
theorem dX0_turnsOver_34 : decode cX0_turnsOver 34 = .ok (.iconst 0, 1) := by decide +kernel
theorem dX0_turnsOver_35 : decode cX0_turnsOver 35 = .ok (.istore_n 2, 1) := by decide +kernel
theorem dX0_turnsOver_36 : decode cX0_turnsOver 36 = .ok (.aload_n 0, 1) := by decide +kernel
theorem dX0_turnsOver_37 : decode cX0_turnsOver 37 = .ok (.iload_n 3, 1) := by decide +kernel
theorem dX0_turnsOver_38 : decode cX0_turnsOver 38 = .ok (.invokevirtual 19, 3) := by decide +kernel
theorem dX0_turnsOver_41 : decode cX0_turnsOver 41 = .ok (.istore_n 3, 1) := by decide +kernel
theorem dX0_turnsOver_42 : decode cX0_turnsOver 42 = .ok (.iinc 5 1, 3) := by decide +kernel
theorem dX0_turnsOver_45 : decode cX0_turnsOver 45 = .ok (.goto (-31), 3) := by decide +kernel
theorem dX0_turnsOver_48 : decode cX0_turnsOver 48 = .ok (.iload_n 2, 1) := by decide +kernel
theorem dX0_turnsOver_49 : decode cX0_turnsOver 49 = .ok (.ireturn, 1) := by decide +kernel
theorem dX0_leastMultiple_0 : decode cX0_leastMultiple 0 = .ok (.iconst 1, 1) := by decide +kernel
theorem dX0_leastMultiple_1 : decode cX0_leastMultiple 1 = .ok (.istore_n 2, 1) := by decide +kernel
theorem dX0_leastMultiple_2 : decode cX0_leastMultiple 2 = .ok (.iload_n 2, 1) := by decide +kernel
theorem dX0_leastMultiple_3 : decode cX0_leastMultiple 3 = .ok (.iload_n 1, 1) := by decide +kernel
theorem dX0_leastMultiple_4 : decode cX0_leastMultiple 4 = .ok (.if_icmp .ge 21, 3) := by decide +kernel
theorem dX0_leastMultiple_7 : decode cX0_leastMultiple 7 = .ok (.iload_n 0, 1) := by decide +kernel
theorem dX0_leastMultiple_8 : decode cX0_leastMultiple 8 = .ok (.iload_n 2, 1) := by decide +kernel
theorem dX0_leastMultiple_9 : decode cX0_leastMultiple 9 = .ok (.imul, 1) := by decide +kernel
theorem dX0_leastMultiple_10 : decode cX0_leastMultiple 10 = .ok (.iload_n 1, 1) := by decide +kernel
theorem dX0_leastMultiple_11 : decode cX0_leastMultiple 11 = .ok (.irem, 1) := by decide +kernel
theorem dX0_leastMultiple_12 : decode cX0_leastMultiple 12 = .ok (.ifCond .ne 7, 3) := by decide +kernel
theorem dX0_leastMultiple_15 : decode cX0_leastMultiple 15 = .ok (.iload_n 0, 1) := by decide +kernel
theorem dX0_leastMultiple_16 : decode cX0_leastMultiple 16 = .ok (.iload_n 2, 1) := by decide +kernel
theorem dX0_leastMultiple_17 : decode cX0_leastMultiple 17 = .ok (.imul, 1) := by decide +kernel
theorem dX0_leastMultiple_18 : decode cX0_leastMultiple 18 = .ok (.ireturn, 1) := by decide +kernel
theorem dX0_leastMultiple_19 : decode cX0_leastMultiple 19 = .ok (.iinc 2 1, 3) := by decide +kernel
theorem dX0_leastMultiple_22 : decode cX0_leastMultiple 22 = .ok (.goto (-20), 3) := by decide +kernel
theorem dX0_leastMultiple_25 : decode cX0_leastMultiple 25 = .ok (.iload_n 0, 1) := by decide +kernel
theorem dX0_leastMultiple_26 : decode cX0_leastMultiple 26 = .ok (.iload_n 1, 1) := by decide +kernel
theorem dX0_leastMultiple_27 : decode cX0_leastMultiple 27 = .ok (.imul, 1) := by decide +kernel
theorem dX0_leastMultiple_28 : decode cX0_leastMultiple 28 = .ok (.ireturn, 1) := by decide +kernel
theorem dX1_init_0 : decode cX1_init 0 = .ok (.aload_n 0, 1) := by decide +kernel
theorem dX1_init_1 : decode cX1_init 1 = .ok (.invokespecial 3, 3) := by decide +kernel
theorem dX1_init_4 : decode cX1_init 4 = .ok (.aload_n 0, 1) := by decide +kernel
theorem dX1_init_5 : decode cX1_init 5 = .ok (.new 9, 3) := by decide +kernel
theorem dX1_init_8 : decode cX1_init 8 = .ok (.dup, 1) := by decide +kernel
theorem dX1_init_9 : decode cX1_init 9 = .ok (.invokespecial 11, 3) := by decide +kernel
theorem dX1_init_12 : decode cX1_init 12 = .ok (.putfield 12, 3) := by decide +kernel
theorem dX1_init_15 : decode cX1_init 15 = .ok (.aload_n 0, 1) := by decide +kernel
theorem dX1_init_16 : decode cX1_init 16 = .ok (.bipush 40, 2) := by decide +kernel
theorem dX1_init_18 : decode cX1_init 18 = .ok (.bipush 16, 2) := by decide +kernel
theorem dX1_init_20 : decode cX1_init 20 = .ok (.multianewarray 18 2, 4) := by decide +kernel
theorem dX1_init_24 : decode cX1_init 24 = .ok (.putfield 20, 3) := by decide +kernel
theorem dX1_init_27 : decode cX1_init 27 = .ok (.return_, 1) := by decide +kernel
theorem dX1_begin_0 : decode cX1_begin 0 = .ok (.aload_n 0, 1) := by decide +kernel
theorem dX1_begin_1 : decode cX1_begin 1 = .ok (.getfield 12, 3) := by decide +kernel
theorem dX1_begin_4 : decode cX1_begin 4 = .ok (.iload_n 1, 1) := by decide +kernel
theorem dX1_begin_5 : decode cX1_begin 5 = .ok (.invokevirtual 23, 3) := by decide +kernel
theorem dX1_begin_8 : decode cX1_begin 8 = .ok (.return_, 1) := by decide +kernel
theorem dX1_row_0 : decode cX1_row 0 = .ok (.aload_n 0, 1) := by decide +kernel
theorem dX1_row_1 : decode cX1_row 1 = .ok (.getfield 12, 3) := by decide +kernel
theorem dX1_row_4 : decode cX1_row 4 = .ok (.areturn, 1) := by decide +kernel
theorem dX1_shuffleCount_0 : decode cX1_shuffleCount 0 = .ok (.aload_n 0, 1) := by decide +kernel
theorem dX1_shuffleCount_1 : decode cX1_shuffleCount 1 = .ok (.getfield 27, 3) := by decide +kernel
theorem dX1_shuffleCount_4 : decode cX1_shuffleCount 4 = .ok (.ireturn, 1) := by decide +kernel
theorem dX1_put_0 : decode cX1_put 0 = .ok (.aload_n 0, 1) := by decide +kernel
theorem dX1_put_1 : decode cX1_put 1 = .ok (.getfield 12, 3) := by decide +kernel
theorem dX1_put_4 : decode cX1_put 4 = .ok (.aload_n 0, 1) := by decide +kernel
theorem dX1_put_5 : decode cX1_put 5 = .ok (.getfield 20, 3) := by decide +kernel
theorem dX1_put_8 : decode cX1_put 8 = .ok (.aload_n 0, 1) := by decide +kernel
theorem dX1_put_9 : decode cX1_put 9 = .ok (.invokevirtual 31, 3) := by decide +kernel
theorem dX1_put_12 : decode cX1_put 12 = .ok (.aaload, 1) := by decide +kernel
theorem dX1_put_13 : decode cX1_put 13 = .ok (.invokevirtual 35, 3) := by decide +kernel
theorem dX1_put_16 : decode cX1_put 16 = .ok (.aload_n 0, 1) := by decide +kernel
theorem dX1_put_17 : decode cX1_put 17 = .ok (.aload_n 0, 1) := by decide +kernel
theorem dX1_put_18 : decode cX1_put 18 = .ok (.getfield 39, 3) := by decide +kernel
theorem dX1_put_21 : decode cX1_put 21 = .ok (.iconst 1, 1) := by decide +kernel
theorem dX1_put_22 : decode cX1_put 22 = .ok (.iadd, 1) := by decide +kernel
theorem dX1_put_23 : decode cX1_put 23 = .ok (.bipush 40, 2) := by decide +kernel
theorem dX1_put_25 : decode cX1_put 25 = .ok (.invokestatic 42, 3) := by decide +kernel
theorem dX1_put_28 : decode cX1_put 28 = .ok (.putfield 39, 3) := by decide +kernel
theorem dX1_put_31 : decode cX1_put 31 = .ok (.aload_n 0, 1) := by decide +kernel
theorem dX1_put_32 : decode cX1_put 32 = .ok (.dup, 1) := by decide +kernel
theorem dX1_put_33 : decode cX1_put 33 = .ok (.getfield 27, 3) := by decide +kernel
theorem dX1_put_36 : decode cX1_put 36 = .ok (.iconst 1, 1) := by decide +kernel
theorem dX1_put_37 : decode cX1_put 37 = .ok (.iadd, 1) := by decide +kernel
theorem dX1_put_38 : decode cX1_put 38 = .ok (.putfield 27, 3) := by decide +kernel
theorem dX1_put_41 : decode cX1_put 41 = .ok (.aload_n 0, 1) := by decide +kernel
theorem dX1_put_42 : decode cX1_put 42 = .ok (.getfield 12, 3) := by decide +kernel
theorem dX1_put_45 : decode cX1_put 45 = .ok (.aload_n 1, 1) := by decide +kernel
theorem dX1_put_46 : decode cX1_put 46 = .ok (.iload_n 2, 1) := by decide +kernel
theorem dX1_put_47 : decode cX1_put 47 = .ok (.invokevirtual 48, 3) := by decide +kernel
theorem dX1_put_50 : decode cX1_put 50 = .ok (.return_, 1) := by decide +kernel
theorem dX1_takeBack_0 : decode cX1_takeBack 0 = .ok (.aload_n 0, 1) := by decide +kernel
theorem dX1_takeBack_1 : decode cX1_takeBack 1 = .ok (.getfield 39, 3) := by decide +kernel
theorem dX1_takeBack_4 : decode cX1_takeBack 4 = .ok (.ifCond .gt 5, 3) := by decide +kernel
theorem dX1_takeBack_7 : decode cX1_takeBack 7 = .ok (.iconst 0, 1) := by decide +kernel
theorem dX1_takeBack_8 : decode cX1_takeBack 8 = .ok (.ireturn, 1) := by decide +kernel
theorem dX1_takeBack_9 : decode cX1_takeBack 9 = .ok (.aload_n 0, 1) := by decide +kernel
theorem dX1_takeBack_10 : decode cX1_takeBack 10 = .ok (.dup, 1) := by decide +kernel
theorem dX1_takeBack_11 : decode cX1_takeBack 11 = .ok (.getfield 39, 3) := by decide +kernel
theorem dX1_takeBack_14 : decode cX1_takeBack 14 = .ok (.iconst 1, 1) := by decide +kernel
theorem dX1_takeBack_15 : decode cX1_takeBack 15 = .ok (.isub, 1) := by decide +kernel
theorem dX1_takeBack_16 : decode cX1_takeBack 16 = .ok (.putfield 39, 3) := by decide +kernel
theorem dX1_takeBack_19 : decode cX1_takeBack 19 = .ok (.aload_n 0, 1) := by decide +kernel
theorem dX1_takeBack_20 : decode cX1_takeBack 20 = .ok (.dup, 1) := by decide +kernel
theorem dX1_takeBack_21 : decode cX1_takeBack 21 = .ok (.getfield 27, 3) := by decide +kernel
theorem dX1_takeBack_24 : decode cX1_takeBack 24 = .ok (.iconst 1, 1) := by decide +kernel
theorem dX1_takeBack_25 : decode cX1_takeBack 25 = .ok (.isub, 1) := by decide +kernel
theorem dX1_takeBack_26 : decode cX1_takeBack 26 = .ok (.putfield 27, 3) := by decide +kernel
theorem dX1_takeBack_29 : decode cX1_takeBack 29 = .ok (.aload_n 0, 1) := by decide +kernel
theorem dX1_takeBack_30 : decode cX1_takeBack 30 = .ok (.getfield 12, 3) := by decide +kernel
theorem dX1_takeBack_33 : decode cX1_takeBack 33 = .ok (.aload_n 0, 1) := by decide +kernel
theorem dX1_takeBack_34 : decode cX1_takeBack 34 = .ok (.getfield 20, 3) := by decide +kernel
theorem dX1_takeBack_37 : decode cX1_takeBack 37 = .ok (.aload_n 0, 1) := by decide +kernel
theorem dX1_takeBack_38 : decode cX1_takeBack 38 = .ok (.invokevirtual 31, 3) := by decide +kernel
theorem dX1_takeBack_41 : decode cX1_takeBack 41 = .ok (.aaload, 1) := by decide +kernel
theorem dX1_takeBack_42 : decode cX1_takeBack 42 = .ok (.invokevirtual 52, 3) := by decide +kernel
theorem dX1_takeBack_45 : decode cX1_takeBack 45 = .ok (.iconst 1, 1) := by decide +kernel
theorem dX1_takeBack_46 : decode cX1_takeBack 46 = .ok (.ireturn, 1) := by decide +kernel
theorem dX1_keptPlace_0 : decode cX1_keptPlace 0 = .ok (.aload_n 0, 1) := by decide +kernel
theorem dX1_keptPlace_1 : decode cX1_keptPlace 1 = .ok (.getfield 27, 3) := by decide +kernel
theorem dX1_keptPlace_4 : decode cX1_keptPlace 4 = .ok (.bipush 40, 2) := by decide +kernel
theorem dX1_keptPlace_6 : decode cX1_keptPlace 6 = .ok (.invokestatic 55, 3) := by decide +kernel
theorem dX1_keptPlace_9 : decode cX1_keptPlace 9 = .ok (.ireturn, 1) := by decide +kernel
theorem dX2_inversions_0 : decode cX2_inversions 0 = .ok (.iconst 0, 1) := by decide +kernel
theorem dX2_inversions_1 : decode cX2_inversions 1 = .ok (.istore_n 1, 1) := by decide +kernel
theorem dX2_inversions_2 : decode cX2_inversions 2 = .ok (.iconst 0, 1) := by decide +kernel
theorem dX2_inversions_3 : decode cX2_inversions 3 = .ok (.istore_n 2, 1) := by decide +kernel
theorem dX2_inversions_4 : decode cX2_inversions 4 = .ok (.iload_n 2, 1) := by decide +kernel
theorem dX2_inversions_5 : decode cX2_inversions 5 = .ok (.aload_n 0, 1) := by decide +kernel
theorem dX2_inversions_6 : decode cX2_inversions 6 = .ok (.invokevirtual 9, 3) := by decide +kernel
theorem dX2_inversions_9 : decode cX2_inversions 9 = .ok (.if_icmp .ge 43, 3) := by decide +kernel
theorem dX2_inversions_12 : decode cX2_inversions 12 = .ok (.iload_n 2, 1) := by decide +kernel
theorem dX2_inversions_13 : decode cX2_inversions 13 = .ok (.iconst 1, 1) := by decide +kernel
theorem dX2_inversions_14 : decode cX2_inversions 14 = .ok (.iadd, 1) := by decide +kernel
theorem dX2_inversions_15 : decode cX2_inversions 15 = .ok (.istore_n 3, 1) := by decide +kernel
theorem dX2_inversions_16 : decode cX2_inversions 16 = .ok (.iload_n 3, 1) := by decide +kernel
theorem dX2_inversions_17 : decode cX2_inversions 17 = .ok (.aload_n 0, 1) := by decide +kernel
theorem dX2_inversions_18 : decode cX2_inversions 18 = .ok (.invokevirtual 9, 3) := by decide +kernel
theorem dX2_inversions_21 : decode cX2_inversions 21 = .ok (.if_icmp .ge 25, 3) := by decide +kernel
theorem dX2_inversions_24 : decode cX2_inversions 24 = .ok (.aload_n 0, 1) := by decide +kernel
theorem dX2_inversions_25 : decode cX2_inversions 25 = .ok (.iload_n 2, 1) := by decide +kernel
theorem dX2_inversions_26 : decode cX2_inversions 26 = .ok (.invokevirtual 15, 3) := by decide +kernel
theorem dX2_inversions_29 : decode cX2_inversions 29 = .ok (.aload_n 0, 1) := by decide +kernel
theorem dX2_inversions_30 : decode cX2_inversions 30 = .ok (.iload_n 3, 1) := by decide +kernel
theorem dX2_inversions_31 : decode cX2_inversions 31 = .ok (.invokevirtual 15, 3) := by decide +kernel
theorem dX2_inversions_34 : decode cX2_inversions 34 = .ok (.if_icmp .le 6, 3) := by decide +kernel
theorem dX2_inversions_37 : decode cX2_inversions 37 = .ok (.iinc 1 1, 3) := by decide +kernel
theorem dX2_inversions_40 : decode cX2_inversions 40 = .ok (.iinc 3 1, 3) := by decide +kernel
theorem dX2_inversions_43 : decode cX2_inversions 43 = .ok (.goto (-27), 3) := by decide +kernel
theorem dX2_inversions_46 : decode cX2_inversions 46 = .ok (.iinc 2 1, 3) := by decide +kernel
theorem dX2_inversions_49 : decode cX2_inversions 49 = .ok (.goto (-45), 3) := by decide +kernel
theorem dX2_inversions_52 : decode cX2_inversions 52 = .ok (.iload_n 1, 1) := by decide +kernel
theorem dX2_inversions_53 : decode cX2_inversions 53 = .ok (.ireturn, 1) := by decide +kernel
theorem dX2_risingRuns_0 : decode cX2_risingRuns 0 = .ok (.iconst 1, 1) := by decide +kernel
theorem dX2_risingRuns_1 : decode cX2_risingRuns 1 = .ok (.istore_n 1, 1) := by decide +kernel
theorem dX2_risingRuns_2 : decode cX2_risingRuns 2 = .ok (.iconst 1, 1) := by decide +kernel
theorem dX2_risingRuns_3 : decode cX2_risingRuns 3 = .ok (.istore_n 2, 1) := by decide +kernel
theorem dX2_risingRuns_4 : decode cX2_risingRuns 4 = .ok (.iload_n 2, 1) := by decide +kernel
theorem dX2_risingRuns_5 : decode cX2_risingRuns 5 = .ok (.aload_n 0, 1) := by decide +kernel
theorem dX2_risingRuns_6 : decode cX2_risingRuns 6 = .ok (.invokevirtual 9, 3) := by decide +kernel
theorem dX2_risingRuns_9 : decode cX2_risingRuns 9 = .ok (.if_icmp .ge 27, 3) := by decide +kernel
theorem dX2_risingRuns_12 : decode cX2_risingRuns 12 = .ok (.aload_n 0, 1) := by decide +kernel
theorem dX2_risingRuns_13 : decode cX2_risingRuns 13 = .ok (.iload_n 2, 1) := by decide +kernel
theorem dX2_risingRuns_14 : decode cX2_risingRuns 14 = .ok (.invokevirtual 19, 3) := by decide +kernel
theorem dX2_risingRuns_17 : decode cX2_risingRuns 17 = .ok (.aload_n 0, 1) := by decide +kernel
theorem dX2_risingRuns_18 : decode cX2_risingRuns 18 = .ok (.iload_n 2, 1) := by decide +kernel
theorem dX2_risingRuns_19 : decode cX2_risingRuns 19 = .ok (.iconst 1, 1) := by decide +kernel
theorem dX2_risingRuns_20 : decode cX2_risingRuns 20 = .ok (.isub, 1) := by decide +kernel
theorem dX2_risingRuns_21 : decode cX2_risingRuns 21 = .ok (.invokevirtual 19, 3) := by decide +kernel
theorem dX2_risingRuns_24 : decode cX2_risingRuns 24 = .ok (.if_icmp .ge 6, 3) := by decide +kernel
theorem dX2_risingRuns_27 : decode cX2_risingRuns 27 = .ok (.iinc 1 1, 3) := by decide +kernel
theorem dX2_risingRuns_30 : decode cX2_risingRuns 30 = .ok (.iinc 2 1, 3) := by decide +kernel
theorem dX2_risingRuns_33 : decode cX2_risingRuns 33 = .ok (.goto (-29), 3) := by decide +kernel
theorem dX2_risingRuns_36 : decode cX2_risingRuns 36 = .ok (.iload_n 1, 1) := by decide +kernel
theorem dX2_risingRuns_37 : decode cX2_risingRuns 37 = .ok (.ireturn, 1) := by decide +kernel
theorem dX2_rifflesNeeded_0 : decode cX2_rifflesNeeded 0 = .ok (.iconst 0, 1) := by decide +kernel
theorem dX2_rifflesNeeded_1 : decode cX2_rifflesNeeded 1 = .ok (.istore_n 1, 1) := by decide +kernel
theorem dX2_rifflesNeeded_2 : decode cX2_rifflesNeeded 2 = .ok (.iload_n 1, 1) := by decide +kernel
theorem dX2_rifflesNeeded_3 : decode cX2_rifflesNeeded 3 = .ok (.bipush 16, 2) := by decide +kernel
theorem dX2_rifflesNeeded_5 : decode cX2_rifflesNeeded 5 = .ok (.if_icmp .ge 16, 3) := by decide +kernel
theorem dX2_rifflesNeeded_8 : decode cX2_rifflesNeeded 8 = .ok (.iconst 1, 1) := by decide +kernel
theorem dX2_rifflesNeeded_9 : decode cX2_rifflesNeeded 9 = .ok (.iload_n 1, 1) := by decide +kernel
theorem dX2_rifflesNeeded_10 : decode cX2_rifflesNeeded 10 = .ok (.ishl, 1) := by decide +kernel
theorem dX2_rifflesNeeded_11 : decode cX2_rifflesNeeded 11 = .ok (.iload_n 0, 1) := by decide +kernel
theorem dX2_rifflesNeeded_12 : decode cX2_rifflesNeeded 12 = .ok (.if_icmp .ge 9, 3) := by decide +kernel
theorem dX2_rifflesNeeded_15 : decode cX2_rifflesNeeded 15 = .ok (.iinc 1 1, 3) := by decide +kernel
theorem dX2_rifflesNeeded_18 : decode cX2_rifflesNeeded 18 = .ok (.goto (-16), 3) := by decide +kernel
theorem dX2_rifflesNeeded_21 : decode cX2_rifflesNeeded 21 = .ok (.iload_n 1, 1) := by decide +kernel
theorem dX2_rifflesNeeded_22 : decode cX2_rifflesNeeded 22 = .ok (.ireturn, 1) := by decide +kernel
theorem dX2_facesUp_0 : decode cX2_facesUp 0 = .ok (.iconst 0, 1) := by decide +kernel
theorem dX2_facesUp_1 : decode cX2_facesUp 1 = .ok (.istore_n 1, 1) := by decide +kernel
theorem dX2_facesUp_2 : decode cX2_facesUp 2 = .ok (.iconst 0, 1) := by decide +kernel
theorem dX2_facesUp_3 : decode cX2_facesUp 3 = .ok (.istore_n 2, 1) := by decide +kernel
theorem dX2_facesUp_4 : decode cX2_facesUp 4 = .ok (.iload_n 2, 1) := by decide +kernel
theorem dX2_facesUp_5 : decode cX2_facesUp 5 = .ok (.aload_n 0, 1) := by decide +kernel
theorem dX2_facesUp_6 : decode cX2_facesUp 6 = .ok (.invokevirtual 9, 3) := by decide +kernel
theorem dX2_facesUp_9 : decode cX2_facesUp 9 = .ok (.if_icmp .ge 20, 3) := by decide +kernel
theorem dX2_facesUp_12 : decode cX2_facesUp 12 = .ok (.aload_n 0, 1) := by decide +kernel
theorem dX2_facesUp_13 : decode cX2_facesUp 13 = .ok (.iload_n 2, 1) := by decide +kernel
theorem dX2_facesUp_14 : decode cX2_facesUp 14 = .ok (.invokevirtual 22, 3) := by decide +kernel
theorem dX2_facesUp_17 : decode cX2_facesUp 17 = .ok (.ifCond .eq 6, 3) := by decide +kernel
theorem dX2_facesUp_20 : decode cX2_facesUp 20 = .ok (.iinc 1 1, 3) := by decide +kernel
theorem dX2_facesUp_23 : decode cX2_facesUp 23 = .ok (.iinc 2 1, 3) := by decide +kernel
theorem dX2_facesUp_26 : decode cX2_facesUp 26 = .ok (.goto (-22), 3) := by decide +kernel
theorem dX2_facesUp_29 : decode cX2_facesUp 29 = .ok (.iload_n 1, 1) := by decide +kernel
theorem dX2_facesUp_30 : decode cX2_facesUp 30 = .ok (.ireturn, 1) := by decide +kernel
theorem dX2_longestRise_0 : decode cX2_longestRise 0 = .ok (.iconst 0, 1) := by decide +kernel
theorem dX2_longestRise_1 : decode cX2_longestRise 1 = .ok (.istore_n 1, 1) := by decide +kernel
theorem dX2_longestRise_2 : decode cX2_longestRise 2 = .ok (.iconst 0, 1) := by decide +kernel
theorem dX2_longestRise_3 : decode cX2_longestRise 3 = .ok (.istore_n 2, 1) := by decide +kernel
theorem dX2_longestRise_4 : decode cX2_longestRise 4 = .ok (.iload_n 2, 1) := by decide +kernel
theorem dX2_longestRise_5 : decode cX2_longestRise 5 = .ok (.aload_n 0, 1) := by decide +kernel
theorem dX2_longestRise_6 : decode cX2_longestRise 6 = .ok (.invokevirtual 9, 3) := by decide +kernel
theorem dX2_longestRise_9 : decode cX2_longestRise 9 = .ok (.if_icmp .ge 39, 3) := by decide +kernel
theorem dX2_longestRise_12 : decode cX2_longestRise 12 = .ok (.aload_n 0, 1) := by decide +kernel
theorem dX2_longestRise_13 : decode cX2_longestRise 13 = .ok (.iload_n 2, 1) := by decide +kernel
theorem dX2_longestRise_14 : decode cX2_longestRise 14 = .ok (.invokevirtual 15, 3) := by decide +kernel
theorem dX2_longestRise_17 : decode cX2_longestRise 17 = .ok (.istore_n 3, 1) := by decide +kernel
theorem dX2_longestRise_18 : decode cX2_longestRise 18 = .ok (.iload_n 1, 1) := by decide +kernel
theorem dX2_longestRise_19 : decode cX2_longestRise 19 = .ok (.iload_n 3, 1) := by decide +kernel
theorem dX2_longestRise_20 : decode cX2_longestRise 20 = .ok (.ishr, 1) := by decide +kernel
theorem dX2_longestRise_21 : decode cX2_longestRise 21 = .ok (.iload_n 3, 1) := by decide +kernel
theorem dX2_longestRise_22 : decode cX2_longestRise 22 = .ok (.ishl, 1) := by decide +kernel
theorem dX2_longestRise_23 : decode cX2_longestRise 23 = .ok (.istore 4, 2) := by decide +kernel
theorem dX2_longestRise_25 : decode cX2_longestRise 25 = .ok (.iload 4, 2) := by decide +kernel
theorem dX2_longestRise_27 : decode cX2_longestRise 27 = .ok (.iload 4, 2) := by decide +kernel
theorem dX2_longestRise_29 : decode cX2_longestRise 29 = .ok (.ineg, 1) := by decide +kernel
theorem dX2_longestRise_30 : decode cX2_longestRise 30 = .ok (.iand, 1) := by decide +kernel
theorem dX2_longestRise_31 : decode cX2_longestRise 31 = .ok (.istore 5, 2) := by decide +kernel
theorem dX2_longestRise_33 : decode cX2_longestRise 33 = .ok (.iload_n 1, 1) := by decide +kernel
theorem dX2_longestRise_34 : decode cX2_longestRise 34 = .ok (.iload 5, 2) := by decide +kernel
theorem dX2_longestRise_36 : decode cX2_longestRise 36 = .ok (.ixor, 1) := by decide +kernel
theorem dX2_longestRise_37 : decode cX2_longestRise 37 = .ok (.iconst 1, 1) := by decide +kernel
theorem dX2_longestRise_38 : decode cX2_longestRise 38 = .ok (.iload_n 3, 1) := by decide +kernel
theorem dX2_longestRise_39 : decode cX2_longestRise 39 = .ok (.ishl, 1) := by decide +kernel
theorem dX2_longestRise_40 : decode cX2_longestRise 40 = .ok (.ior, 1) := by decide +kernel
theorem dX2_longestRise_41 : decode cX2_longestRise 41 = .ok (.istore_n 1, 1) := by decide +kernel
theorem dX2_longestRise_42 : decode cX2_longestRise 42 = .ok (.iinc 2 1, 3) := by decide +kernel
theorem dX2_longestRise_45 : decode cX2_longestRise 45 = .ok (.goto (-41), 3) := by decide +kernel
theorem dX2_longestRise_48 : decode cX2_longestRise 48 = .ok (.iload_n 1, 1) := by decide +kernel
theorem dX2_longestRise_49 : decode cX2_longestRise 49 = .ok (.invokestatic 26, 3) := by decide +kernel
theorem dX2_longestRise_52 : decode cX2_longestRise 52 = .ok (.ireturn, 1) := by decide +kernel
theorem dX2_keepsGroups_0 : decode cX2_keepsGroups 0 = .ok (.iconst 0, 1) := by decide +kernel
theorem dX2_keepsGroups_1 : decode cX2_keepsGroups 1 = .ok (.istore_n 2, 1) := by decide +kernel
theorem dX2_keepsGroups_2 : decode cX2_keepsGroups 2 = .ok (.iload_n 2, 1) := by decide +kernel
theorem dX2_keepsGroups_3 : decode cX2_keepsGroups 3 = .ok (.iload_n 1, 1) := by decide +kernel
theorem dX2_keepsGroups_4 : decode cX2_keepsGroups 4 = .ok (.iadd, 1) := by decide +kernel
theorem dX2_keepsGroups_5 : decode cX2_keepsGroups 5 = .ok (.aload_n 0, 1) := by decide +kernel
theorem dX2_keepsGroups_6 : decode cX2_keepsGroups 6 = .ok (.invokevirtual 9, 3) := by decide +kernel
theorem dX2_keepsGroups_9 : decode cX2_keepsGroups 9 = .ok (.if_icmp .gt 53, 3) := by decide +kernel
theorem dX2_keepsGroups_12 : decode cX2_keepsGroups 12 = .ok (.iconst 0, 1) := by decide +kernel
theorem dX2_keepsGroups_13 : decode cX2_keepsGroups 13 = .ok (.istore_n 3, 1) := by decide +kernel
theorem dX2_keepsGroups_14 : decode cX2_keepsGroups 14 = .ok (.iconst 0, 1) := by decide +kernel
theorem dX2_keepsGroups_15 : decode cX2_keepsGroups 15 = .ok (.istore 4, 2) := by decide +kernel
theorem dX2_keepsGroups_17 : decode cX2_keepsGroups 17 = .ok (.iload 4, 2) := by decide +kernel
theorem dX2_keepsGroups_19 : decode cX2_keepsGroups 19 = .ok (.iload_n 1, 1) := by decide +kernel
theorem dX2_keepsGroups_20 : decode cX2_keepsGroups 20 = .ok (.if_icmp .ge 24, 3) := by decide +kernel
theorem dX2_keepsGroups_23 : decode cX2_keepsGroups 23 = .ok (.iload_n 3, 1) := by decide +kernel
theorem dX2_keepsGroups_24 : decode cX2_keepsGroups 24 = .ok (.iconst 1, 1) := by decide +kernel
theorem dX2_keepsGroups_25 : decode cX2_keepsGroups 25 = .ok (.aload_n 0, 1) := by decide +kernel
theorem dX2_keepsGroups_26 : decode cX2_keepsGroups 26 = .ok (.iload_n 2, 1) := by decide +kernel
theorem dX2_keepsGroups_27 : decode cX2_keepsGroups 27 = .ok (.iload 4, 2) := by decide +kernel
theorem dX2_keepsGroups_29 : decode cX2_keepsGroups 29 = .ok (.iadd, 1) := by decide +kernel
theorem dX2_keepsGroups_30 : decode cX2_keepsGroups 30 = .ok (.invokevirtual 15, 3) := by decide +kernel
theorem dX2_keepsGroups_33 : decode cX2_keepsGroups 33 = .ok (.iload_n 1, 1) := by decide +kernel
theorem dX2_keepsGroups_34 : decode cX2_keepsGroups 34 = .ok (.irem, 1) := by decide +kernel
theorem dX2_keepsGroups_35 : decode cX2_keepsGroups 35 = .ok (.ishl, 1) := by decide +kernel
theorem dX2_keepsGroups_36 : decode cX2_keepsGroups 36 = .ok (.ior, 1) := by decide +kernel
theorem dX2_keepsGroups_37 : decode cX2_keepsGroups 37 = .ok (.istore_n 3, 1) := by decide +kernel
theorem dX2_keepsGroups_38 : decode cX2_keepsGroups 38 = .ok (.iinc 4 1, 3) := by decide +kernel
theorem dX2_keepsGroups_41 : decode cX2_keepsGroups 41 = .ok (.goto (-24), 3) := by decide +kernel
theorem dX2_keepsGroups_44 : decode cX2_keepsGroups 44 = .ok (.iload_n 3, 1) := by decide +kernel
theorem dX2_keepsGroups_45 : decode cX2_keepsGroups 45 = .ok (.iconst 1, 1) := by decide +kernel
theorem dX2_keepsGroups_46 : decode cX2_keepsGroups 46 = .ok (.iload_n 1, 1) := by decide +kernel
theorem dX2_keepsGroups_47 : decode cX2_keepsGroups 47 = .ok (.ishl, 1) := by decide +kernel
theorem dX2_keepsGroups_48 : decode cX2_keepsGroups 48 = .ok (.iconst 1, 1) := by decide +kernel
theorem dX2_keepsGroups_49 : decode cX2_keepsGroups 49 = .ok (.isub, 1) := by decide +kernel
theorem dX2_keepsGroups_50 : decode cX2_keepsGroups 50 = .ok (.if_icmp .eq 5, 3) := by decide +kernel
theorem dX2_keepsGroups_53 : decode cX2_keepsGroups 53 = .ok (.iconst 0, 1) := by decide +kernel
theorem dX2_keepsGroups_54 : decode cX2_keepsGroups 54 = .ok (.ireturn, 1) := by decide +kernel
theorem dX2_keepsGroups_55 : decode cX2_keepsGroups 55 = .ok (.iload_n 2, 1) := by decide +kernel
theorem dX2_keepsGroups_56 : decode cX2_keepsGroups 56 = .ok (.iload_n 1, 1) := by decide +kernel
theorem dX2_keepsGroups_57 : decode cX2_keepsGroups 57 = .ok (.iadd, 1) := by decide +kernel
theorem dX2_keepsGroups_58 : decode cX2_keepsGroups 58 = .ok (.istore_n 2, 1) := by decide +kernel
theorem dX2_keepsGroups_59 : decode cX2_keepsGroups 59 = .ok (.goto (-57), 3) := by decide +kernel
theorem dX2_keepsGroups_62 : decode cX2_keepsGroups 62 = .ok (.iconst 1, 1) := by decide +kernel
theorem dX2_keepsGroups_63 : decode cX2_keepsGroups 63 = .ok (.ireturn, 1) := by decide +kernel
theorem dX2_isWhole_0 : decode cX2_isWhole 0 = .ok (.aload_n 0, 1) := by decide +kernel
theorem dX2_isWhole_1 : decode cX2_isWhole 1 = .ok (.iconst 0, 1) := by decide +kernel
theorem dX2_isWhole_2 : decode cX2_isWhole 2 = .ok (.invokevirtual 15, 3) := by decide +kernel
theorem dX2_isWhole_5 : decode cX2_isWhole 5 = .ok (.istore_n 1, 1) := by decide +kernel
theorem dX2_isWhole_6 : decode cX2_isWhole 6 = .ok (.iload_n 1, 1) := by decide +kernel
theorem dX2_isWhole_7 : decode cX2_isWhole 7 = .ok (.istore_n 2, 1) := by decide +kernel
theorem dX2_isWhole_8 : decode cX2_isWhole 8 = .ok (.iconst 1, 1) := by decide +kernel
theorem dX2_isWhole_9 : decode cX2_isWhole 9 = .ok (.istore_n 3, 1) := by decide +kernel
theorem dX2_isWhole_10 : decode cX2_isWhole 10 = .ok (.iload_n 3, 1) := by decide +kernel
theorem dX2_isWhole_11 : decode cX2_isWhole 11 = .ok (.aload_n 0, 1) := by decide +kernel
theorem dX2_isWhole_12 : decode cX2_isWhole 12 = .ok (.invokevirtual 9, 3) := by decide +kernel
theorem dX2_isWhole_15 : decode cX2_isWhole 15 = .ok (.if_icmp .ge 38, 3) := by decide +kernel
theorem dX2_isWhole_18 : decode cX2_isWhole 18 = .ok (.iload_n 1, 1) := by decide +kernel
theorem dX2_isWhole_19 : decode cX2_isWhole 19 = .ok (.aload_n 0, 1) := by decide +kernel
theorem dX2_isWhole_20 : decode cX2_isWhole 20 = .ok (.iload_n 3, 1) := by decide +kernel
theorem dX2_isWhole_21 : decode cX2_isWhole 21 = .ok (.invokevirtual 15, 3) := by decide +kernel
theorem dX2_isWhole_24 : decode cX2_isWhole 24 = .ok (.invokestatic 31, 3) := by decide +kernel
theorem dX2_isWhole_27 : decode cX2_isWhole 27 = .ok (.istore_n 1, 1) := by decide +kernel
theorem dX2_isWhole_28 : decode cX2_isWhole 28 = .ok (.iload_n 2, 1) := by decide +kernel
theorem dX2_isWhole_29 : decode cX2_isWhole 29 = .ok (.aload_n 0, 1) := by decide +kernel
theorem dX2_isWhole_30 : decode cX2_isWhole 30 = .ok (.iload_n 3, 1) := by decide +kernel
theorem dX2_isWhole_31 : decode cX2_isWhole 31 = .ok (.invokevirtual 15, 3) := by decide +kernel
theorem dX2_isWhole_34 : decode cX2_isWhole 34 = .ok (.invokestatic 37, 3) := by decide +kernel
theorem dX2_isWhole_37 : decode cX2_isWhole 37 = .ok (.istore_n 2, 1) := by decide +kernel
theorem dX2_isWhole_38 : decode cX2_isWhole 38 = .ok (.iload_n 2, 1) := by decide +kernel
theorem dX2_isWhole_39 : decode cX2_isWhole 39 = .ok (.iload_n 1, 1) := by decide +kernel
theorem dX2_isWhole_40 : decode cX2_isWhole 40 = .ok (.isub, 1) := by decide +kernel
theorem dX2_isWhole_41 : decode cX2_isWhole 41 = .ok (.iload_n 3, 1) := by decide +kernel
theorem dX2_isWhole_42 : decode cX2_isWhole 42 = .ok (.if_icmp .eq 5, 3) := by decide +kernel
theorem dX2_isWhole_45 : decode cX2_isWhole 45 = .ok (.iconst 0, 1) := by decide +kernel
theorem dX2_isWhole_46 : decode cX2_isWhole 46 = .ok (.ireturn, 1) := by decide +kernel
theorem dX2_isWhole_47 : decode cX2_isWhole 47 = .ok (.iinc 3 1, 3) := by decide +kernel
theorem dX2_isWhole_50 : decode cX2_isWhole 50 = .ok (.goto (-40), 3) := by decide +kernel
theorem dX2_isWhole_53 : decode cX2_isWhole 53 = .ok (.iconst 1, 1) := by decide +kernel
theorem dX2_isWhole_54 : decode cX2_isWhole 54 = .ok (.ireturn, 1) := by decide +kernel
theorem dX2_isMirrored_0 : decode cX2_isMirrored 0 = .ok (.aload_n 0, 1) := by decide +kernel
theorem dX2_isMirrored_1 : decode cX2_isMirrored 1 = .ok (.invokevirtual 9, 3) := by decide +kernel
theorem dX2_isMirrored_4 : decode cX2_isMirrored 4 = .ok (.iconst 1, 1) := by decide +kernel
theorem dX2_isMirrored_5 : decode cX2_isMirrored 5 = .ok (.isub, 1) := by decide +kernel
theorem dX2_isMirrored_6 : decode cX2_isMirrored 6 = .ok (.istore_n 1, 1) := by decide +kernel
theorem dX2_isMirrored_7 : decode cX2_isMirrored 7 = .ok (.iconst 0, 1) := by decide +kernel
theorem dX2_isMirrored_8 : decode cX2_isMirrored 8 = .ok (.istore_n 2, 1) := by decide +kernel
theorem dX2_isMirrored_9 : decode cX2_isMirrored 9 = .ok (.iload_n 2, 1) := by decide +kernel
theorem dX2_isMirrored_10 : decode cX2_isMirrored 10 = .ok (.iload_n 1, 1) := by decide +kernel
theorem dX2_isMirrored_11 : decode cX2_isMirrored 11 = .ok (.if_icmp .gt 28, 3) := by decide +kernel
theorem dX2_isMirrored_14 : decode cX2_isMirrored 14 = .ok (.aload_n 0, 1) := by decide +kernel
theorem dX2_isMirrored_15 : decode cX2_isMirrored 15 = .ok (.iload_n 2, 1) := by decide +kernel
theorem dX2_isMirrored_16 : decode cX2_isMirrored 16 = .ok (.invokevirtual 15, 3) := by decide +kernel
theorem dX2_isMirrored_19 : decode cX2_isMirrored 19 = .ok (.aload_n 0, 1) := by decide +kernel
theorem dX2_isMirrored_20 : decode cX2_isMirrored 20 = .ok (.iload_n 1, 1) := by decide +kernel
theorem dX2_isMirrored_21 : decode cX2_isMirrored 21 = .ok (.iload_n 2, 1) := by decide +kernel
theorem dX2_isMirrored_22 : decode cX2_isMirrored 22 = .ok (.isub, 1) := by decide +kernel
theorem dX2_isMirrored_23 : decode cX2_isMirrored 23 = .ok (.invokevirtual 15, 3) := by decide +kernel
theorem dX2_isMirrored_26 : decode cX2_isMirrored 26 = .ok (.iadd, 1) := by decide +kernel
theorem dX2_isMirrored_27 : decode cX2_isMirrored 27 = .ok (.iload_n 1, 1) := by decide +kernel
theorem dX2_isMirrored_28 : decode cX2_isMirrored 28 = .ok (.if_icmp .eq 5, 3) := by decide +kernel
theorem dX2_isMirrored_31 : decode cX2_isMirrored 31 = .ok (.iconst 0, 1) := by decide +kernel
theorem dX2_isMirrored_32 : decode cX2_isMirrored 32 = .ok (.ireturn, 1) := by decide +kernel
theorem dX2_isMirrored_33 : decode cX2_isMirrored 33 = .ok (.iinc 2 1, 3) := by decide +kernel
theorem dX2_isMirrored_36 : decode cX2_isMirrored 36 = .ok (.goto (-27), 3) := by decide +kernel
theorem dX2_isMirrored_39 : decode cX2_isMirrored 39 = .ok (.iconst 1, 1) := by decide +kernel
theorem dX2_isMirrored_40 : decode cX2_isMirrored 40 = .ok (.ireturn, 1) := by decide +kernel
theorem dX2_placesFrom_0 : decode cX2_placesFrom 0 = .ok (.iconst 0, 1) := by decide +kernel
theorem dX2_placesFrom_1 : decode cX2_placesFrom 1 = .ok (.istore_n 2, 1) := by decide +kernel
theorem dX2_placesFrom_2 : decode cX2_placesFrom 2 = .ok (.iconst 0, 1) := by decide +kernel
theorem dX2_placesFrom_3 : decode cX2_placesFrom 3 = .ok (.istore_n 3, 1) := by decide +kernel
theorem dX2_placesFrom_4 : decode cX2_placesFrom 4 = .ok (.iload_n 3, 1) := by decide +kernel
theorem dX2_placesFrom_5 : decode cX2_placesFrom 5 = .ok (.aload_n 0, 1) := by decide +kernel
theorem dX2_placesFrom_6 : decode cX2_placesFrom 6 = .ok (.invokevirtual 9, 3) := by decide +kernel
theorem dX2_placesFrom_9 : decode cX2_placesFrom 9 = .ok (.if_icmp .ge 24, 3) := by decide +kernel
theorem dX2_placesFrom_12 : decode cX2_placesFrom 12 = .ok (.aload_n 0, 1) := by decide +kernel
theorem dX2_placesFrom_13 : decode cX2_placesFrom 13 = .ok (.iload_n 3, 1) := by decide +kernel
theorem dX2_placesFrom_14 : decode cX2_placesFrom 14 = .ok (.invokevirtual 15, 3) := by decide +kernel
theorem dX2_placesFrom_17 : decode cX2_placesFrom 17 = .ok (.iload_n 1, 1) := by decide +kernel
theorem dX2_placesFrom_18 : decode cX2_placesFrom 18 = .ok (.if_icmp .lt 9, 3) := by decide +kernel
theorem dX2_placesFrom_21 : decode cX2_placesFrom 21 = .ok (.iload_n 2, 1) := by decide +kernel
theorem dX2_placesFrom_22 : decode cX2_placesFrom 22 = .ok (.iconst 1, 1) := by decide +kernel
theorem dX2_placesFrom_23 : decode cX2_placesFrom 23 = .ok (.iload_n 3, 1) := by decide +kernel
theorem dX2_placesFrom_24 : decode cX2_placesFrom 24 = .ok (.ishl, 1) := by decide +kernel
theorem dX2_placesFrom_25 : decode cX2_placesFrom 25 = .ok (.ior, 1) := by decide +kernel
theorem dX2_placesFrom_26 : decode cX2_placesFrom 26 = .ok (.istore_n 2, 1) := by decide +kernel
theorem dX2_placesFrom_27 : decode cX2_placesFrom 27 = .ok (.iinc 3 1, 3) := by decide +kernel
theorem dX2_placesFrom_30 : decode cX2_placesFrom 30 = .ok (.goto (-26), 3) := by decide +kernel
theorem dX2_placesFrom_33 : decode cX2_placesFrom 33 = .ok (.iload_n 2, 1) := by decide +kernel
theorem dX2_placesFrom_34 : decode cX2_placesFrom 34 = .ok (.ireturn, 1) := by decide +kernel
theorem dX3_init_0 : decode cX3_init 0 = .ok (.aload_n 0, 1) := by decide +kernel
theorem dX3_init_1 : decode cX3_init 1 = .ok (.invokespecial 3, 3) := by decide +kernel
theorem dX3_init_4 : decode cX3_init 4 = .ok (.aload_n 0, 1) := by decide +kernel
theorem dX3_init_5 : decode cX3_init 5 = .ok (.bipush 16, 2) := by decide +kernel
theorem dX3_init_7 : decode cX3_init 7 = .ok (.newarray .int, 2) := by decide +kernel
theorem dX3_init_9 : decode cX3_init 9 = .ok (.putfield 9, 3) := by decide +kernel
theorem dX3_init_12 : decode cX3_init 12 = .ok (.aload_n 0, 1) := by decide +kernel
theorem dX3_init_13 : decode cX3_init 13 = .ok (.bipush 16, 2) := by decide +kernel
theorem dX3_init_15 : decode cX3_init 15 = .ok (.newarray .int, 2) := by decide +kernel
theorem dX3_init_17 : decode cX3_init 17 = .ok (.putfield 15, 3) := by decide +kernel
theorem dX3_init_20 : decode cX3_init 20 = .ok (.return_, 1) := by decide +kernel
theorem dX3_begin_0 : decode cX3_begin 0 = .ok (.aload_n 0, 1) := by decide +kernel
theorem dX3_begin_1 : decode cX3_begin 1 = .ok (.invokevirtual 18, 3) := by decide +kernel
theorem dX3_begin_4 : decode cX3_begin 4 = .ok (.aload_n 0, 1) := by decide +kernel
theorem dX3_begin_5 : decode cX3_begin 5 = .ok (.iconst 0, 1) := by decide +kernel
theorem dX3_begin_6 : decode cX3_begin 6 = .ok (.iload_n 1, 1) := by decide +kernel
theorem dX3_begin_7 : decode cX3_begin 7 = .ok (.invokevirtual 21, 3) := by decide +kernel
theorem dX3_begin_10 : decode cX3_begin 10 = .ok (.return_, 1) := by decide +kernel
theorem dX3_clear_0 : decode cX3_clear 0 = .ok (.aload_n 0, 1) := by decide +kernel
theorem dX3_clear_1 : decode cX3_clear 1 = .ok (.iconst 0, 1) := by decide +kernel
theorem dX3_clear_2 : decode cX3_clear 2 = .ok (.putfield 25, 3) := by decide +kernel
theorem dX3_clear_5 : decode cX3_clear 5 = .ok (.return_, 1) := by decide +kernel
theorem dX3_add_0 : decode cX3_add 0 = .ok (.aload_n 0, 1) := by decide +kernel
theorem dX3_add_1 : decode cX3_add 1 = .ok (.iconst 2, 1) := by decide +kernel
theorem dX3_add_2 : decode cX3_add 2 = .ok (.iload_n 1, 1) := by decide +kernel
theorem dX3_add_3 : decode cX3_add 3 = .ok (.imul, 1) := by decide +kernel
theorem dX3_add_4 : decode cX3_add 4 = .ok (.invokevirtual 29, 3) := by decide +kernel
theorem dX3_add_7 : decode cX3_add 7 = .ok (.return_, 1) := by decide +kernel
theorem dX3_addTurned_0 : decode cX3_addTurned 0 = .ok (.aload_n 0, 1) := by decide +kernel
theorem dX3_addTurned_1 : decode cX3_addTurned 1 = .ok (.iconst 2, 1) := by decide +kernel
theorem dX3_addTurned_2 : decode cX3_addTurned 2 = .ok (.iload_n 1, 1) := by decide +kernel
theorem dX3_addTurned_3 : decode cX3_addTurned 3 = .ok (.imul, 1) := by decide +kernel
theorem dX3_addTurned_4 : decode cX3_addTurned 4 = .ok (.iconst 1, 1) := by decide +kernel
theorem dX3_addTurned_5 : decode cX3_addTurned 5 = .ok (.iadd, 1) := by decide +kernel
theorem dX3_addTurned_6 : decode cX3_addTurned 6 = .ok (.invokevirtual 29, 3) := by decide +kernel
theorem dX3_addTurned_9 : decode cX3_addTurned 9 = .ok (.return_, 1) := by decide +kernel
theorem dX3_addSpan_0 : decode cX3_addSpan 0 = .ok (.iload_n 1, 1) := by decide +kernel
theorem dX3_addSpan_1 : decode cX3_addSpan 1 = .ok (.istore_n 3, 1) := by decide +kernel
theorem dX3_addSpan_2 : decode cX3_addSpan 2 = .ok (.iload_n 3, 1) := by decide +kernel
theorem dX3_addSpan_3 : decode cX3_addSpan 3 = .ok (.iload_n 2, 1) := by decide +kernel
theorem dX3_addSpan_4 : decode cX3_addSpan 4 = .ok (.if_icmp .ge 16, 3) := by decide +kernel
theorem dX3_addSpan_7 : decode cX3_addSpan 7 = .ok (.aload_n 0, 1) := by decide +kernel
theorem dX3_addSpan_8 : decode cX3_addSpan 8 = .ok (.iconst 2, 1) := by decide +kernel
theorem dX3_addSpan_9 : decode cX3_addSpan 9 = .ok (.iload_n 3, 1) := by decide +kernel
theorem dX3_addSpan_10 : decode cX3_addSpan 10 = .ok (.imul, 1) := by decide +kernel
theorem dX3_addSpan_11 : decode cX3_addSpan 11 = .ok (.invokevirtual 29, 3) := by decide +kernel
theorem dX3_addSpan_14 : decode cX3_addSpan 14 = .ok (.iinc 3 1, 3) := by decide +kernel
theorem dX3_addSpan_17 : decode cX3_addSpan 17 = .ok (.goto (-15), 3) := by decide +kernel
theorem dX3_addSpan_20 : decode cX3_addSpan 20 = .ok (.return_, 1) := by decide +kernel
theorem dX3_addLying_0 : decode cX3_addLying 0 = .ok (.aload_n 0, 1) := by decide +kernel
theorem dX3_addLying_1 : decode cX3_addLying 1 = .ok (.getfield 25, 3) := by decide +kernel
theorem dX3_addLying_4 : decode cX3_addLying 4 = .ok (.aload_n 0, 1) := by decide +kernel
theorem dX3_addLying_5 : decode cX3_addLying 5 = .ok (.getfield 9, 3) := by decide +kernel
theorem dX3_addLying_8 : decode cX3_addLying 8 = .ok (.arraylength, 1) := by decide +kernel
theorem dX3_addLying_9 : decode cX3_addLying 9 = .ok (.if_icmp .ge 23, 3) := by decide +kernel
theorem dX3_addLying_12 : decode cX3_addLying 12 = .ok (.aload_n 0, 1) := by decide +kernel
theorem dX3_addLying_13 : decode cX3_addLying 13 = .ok (.getfield 9, 3) := by decide +kernel
theorem dX3_addLying_16 : decode cX3_addLying 16 = .ok (.aload_n 0, 1) := by decide +kernel
theorem dX3_addLying_17 : decode cX3_addLying 17 = .ok (.getfield 25, 3) := by decide +kernel
theorem dX3_addLying_20 : decode cX3_addLying 20 = .ok (.iload_n 1, 1) := by decide +kernel
theorem dX3_addLying_21 : decode cX3_addLying 21 = .ok (.iastore, 1) := by decide +kernel
theorem dX3_addLying_22 : decode cX3_addLying 22 = .ok (.aload_n 0, 1) := by decide +kernel
theorem dX3_addLying_23 : decode cX3_addLying 23 = .ok (.dup, 1) := by decide +kernel
theorem dX3_addLying_24 : decode cX3_addLying 24 = .ok (.getfield 25, 3) := by decide +kernel
theorem dX3_addLying_27 : decode cX3_addLying 27 = .ok (.iconst 1, 1) := by decide +kernel
theorem dX3_addLying_28 : decode cX3_addLying 28 = .ok (.iadd, 1) := by decide +kernel
theorem dX3_addLying_29 : decode cX3_addLying 29 = .ok (.putfield 25, 3) := by decide +kernel
theorem dX3_addLying_32 : decode cX3_addLying 32 = .ok (.return_, 1) := by decide +kernel
theorem dX3_size_0 : decode cX3_size 0 = .ok (.aload_n 0, 1) := by decide +kernel
theorem dX3_size_1 : decode cX3_size 1 = .ok (.getfield 25, 3) := by decide +kernel
theorem dX3_size_4 : decode cX3_size 4 = .ok (.ireturn, 1) := by decide +kernel
theorem dX3_has_0 : decode cX3_has 0 = .ok (.iload_n 1, 1) := by decide +kernel
theorem dX3_has_1 : decode cX3_has 1 = .ok (.ifCond .lt 24, 3) := by decide +kernel
theorem dX3_has_4 : decode cX3_has 4 = .ok (.iload_n 1, 1) := by decide +kernel
theorem dX3_has_5 : decode cX3_has 5 = .ok (.aload_n 0, 1) := by decide +kernel
theorem dX3_has_6 : decode cX3_has 6 = .ok (.getfield 25, 3) := by decide +kernel
theorem dX3_has_9 : decode cX3_has 9 = .ok (.if_icmp .ge 16, 3) := by decide +kernel
theorem dX3_has_12 : decode cX3_has 12 = .ok (.iload_n 1, 1) := by decide +kernel
theorem dX3_has_13 : decode cX3_has 13 = .ok (.aload_n 0, 1) := by decide +kernel
theorem dX3_has_14 : decode cX3_has 14 = .ok (.getfield 9, 3) := by decide +kernel
theorem dX3_has_17 : decode cX3_has 17 = .ok (.arraylength, 1) := by decide +kernel
theorem dX3_has_18 : decode cX3_has 18 = .ok (.if_icmp .ge 7, 3) := by decide +kernel
theorem dX3_has_21 : decode cX3_has 21 = .ok (.iconst 1, 1) := by decide +kernel
theorem dX3_has_22 : decode cX3_has 22 = .ok (.goto 4, 3) := by decide +kernel
theorem dX3_has_25 : decode cX3_has 25 = .ok (.iconst 0, 1) := by decide +kernel
theorem dX3_has_26 : decode cX3_has 26 = .ok (.ireturn, 1) := by decide +kernel
theorem dX3_numberAt_0 : decode cX3_numberAt 0 = .ok (.aload_n 0, 1) := by decide +kernel
theorem dX3_numberAt_1 : decode cX3_numberAt 1 = .ok (.iload_n 1, 1) := by decide +kernel
theorem dX3_numberAt_2 : decode cX3_numberAt 2 = .ok (.invokevirtual 33, 3) := by decide +kernel
theorem dX3_numberAt_5 : decode cX3_numberAt 5 = .ok (.ifCond .eq 14, 3) := by decide +kernel
theorem dX3_numberAt_8 : decode cX3_numberAt 8 = .ok (.aload_n 0, 1) := by decide +kernel
theorem dX3_numberAt_9 : decode cX3_numberAt 9 = .ok (.getfield 9, 3) := by decide +kernel
theorem dX3_numberAt_12 : decode cX3_numberAt 12 = .ok (.iload_n 1, 1) := by decide +kernel
theorem dX3_numberAt_13 : decode cX3_numberAt 13 = .ok (.iaload, 1) := by decide +kernel
theorem dX3_numberAt_14 : decode cX3_numberAt 14 = .ok (.iconst 1, 1) := by decide +kernel
theorem dX3_numberAt_15 : decode cX3_numberAt 15 = .ok (.ishr, 1) := by decide +kernel
theorem dX3_numberAt_16 : decode cX3_numberAt 16 = .ok (.goto 4, 3) := by decide +kernel
theorem dX3_numberAt_19 : decode cX3_numberAt 19 = .ok (.iconst 0, 1) := by decide +kernel
theorem dX3_numberAt_20 : decode cX3_numberAt 20 = .ok (.ireturn, 1) := by decide +kernel
theorem dX3_isTurnedAt_0 : decode cX3_isTurnedAt 0 = .ok (.aload_n 0, 1) := by decide +kernel
theorem dX3_isTurnedAt_1 : decode cX3_isTurnedAt 1 = .ok (.iload_n 1, 1) := by decide +kernel
theorem dX3_isTurnedAt_2 : decode cX3_isTurnedAt 2 = .ok (.invokevirtual 33, 3) := by decide +kernel
theorem dX3_isTurnedAt_5 : decode cX3_isTurnedAt 5 = .ok (.ifCond .eq 18, 3) := by decide +kernel
theorem dX3_isTurnedAt_8 : decode cX3_isTurnedAt 8 = .ok (.aload_n 0, 1) := by decide +kernel
theorem dX3_isTurnedAt_9 : decode cX3_isTurnedAt 9 = .ok (.getfield 9, 3) := by decide +kernel
theorem dX3_isTurnedAt_12 : decode cX3_isTurnedAt 12 = .ok (.iload_n 1, 1) := by decide +kernel
theorem dX3_isTurnedAt_13 : decode cX3_isTurnedAt 13 = .ok (.iaload, 1) := by decide +kernel
theorem dX3_isTurnedAt_14 : decode cX3_isTurnedAt 14 = .ok (.iconst 1, 1) := by decide +kernel
theorem dX3_isTurnedAt_15 : decode cX3_isTurnedAt 15 = .ok (.iand, 1) := by decide +kernel
theorem dX3_isTurnedAt_16 : decode cX3_isTurnedAt 16 = .ok (.ifCond .eq 7, 3) := by decide +kernel
theorem dX3_isTurnedAt_19 : decode cX3_isTurnedAt 19 = .ok (.iconst 1, 1) := by decide +kernel
theorem dX3_isTurnedAt_20 : decode cX3_isTurnedAt 20 = .ok (.goto 4, 3) := by decide +kernel
theorem dX3_isTurnedAt_23 : decode cX3_isTurnedAt 23 = .ok (.iconst 0, 1) := by decide +kernel
theorem dX3_isTurnedAt_24 : decode cX3_isTurnedAt 24 = .ok (.ireturn, 1) := by decide +kernel
theorem dX3_placeOf_0 : decode cX3_placeOf 0 = .ok (.iconst 0, 1) := by decide +kernel
theorem dX3_placeOf_1 : decode cX3_placeOf 1 = .ok (.istore_n 2, 1) := by decide +kernel
theorem dX3_placeOf_2 : decode cX3_placeOf 2 = .ok (.iload_n 2, 1) := by decide +kernel
theorem dX3_placeOf_3 : decode cX3_placeOf 3 = .ok (.aload_n 0, 1) := by decide +kernel
theorem dX3_placeOf_4 : decode cX3_placeOf 4 = .ok (.getfield 25, 3) := by decide +kernel
theorem dX3_placeOf_7 : decode cX3_placeOf 7 = .ok (.if_icmp .ge 20, 3) := by decide +kernel
theorem dX3_placeOf_10 : decode cX3_placeOf 10 = .ok (.aload_n 0, 1) := by decide +kernel
theorem dX3_placeOf_11 : decode cX3_placeOf 11 = .ok (.iload_n 2, 1) := by decide +kernel
theorem dX3_placeOf_12 : decode cX3_placeOf 12 = .ok (.invokevirtual 37, 3) := by decide +kernel
theorem dX3_placeOf_15 : decode cX3_placeOf 15 = .ok (.iload_n 1, 1) := by decide +kernel
theorem dX3_placeOf_16 : decode cX3_placeOf 16 = .ok (.if_icmp .ne 5, 3) := by decide +kernel
theorem dX3_placeOf_19 : decode cX3_placeOf 19 = .ok (.iload_n 2, 1) := by decide +kernel
theorem dX3_placeOf_20 : decode cX3_placeOf 20 = .ok (.ireturn, 1) := by decide +kernel
theorem dX3_placeOf_21 : decode cX3_placeOf 21 = .ok (.iinc 2 1, 3) := by decide +kernel
theorem dX3_placeOf_24 : decode cX3_placeOf 24 = .ok (.goto (-22), 3) := by decide +kernel
theorem dX3_placeOf_27 : decode cX3_placeOf 27 = .ok (.iconst (-1), 1) := by decide +kernel
theorem dX3_placeOf_28 : decode cX3_placeOf 28 = .ok (.ireturn, 1) := by decide +kernel
theorem dX3_isPlacedAs_0 : decode cX3_isPlacedAs 0 = .ok (.iconst 0, 1) := by decide +kernel
theorem dX3_isPlacedAs_1 : decode cX3_isPlacedAs 1 = .ok (.istore_n 2, 1) := by decide +kernel
theorem dX3_isPlacedAs_2 : decode cX3_isPlacedAs 2 = .ok (.iload_n 2, 1) := by decide +kernel
theorem dX3_isPlacedAs_3 : decode cX3_isPlacedAs 3 = .ok (.aload_n 0, 1) := by decide +kernel
theorem dX3_isPlacedAs_4 : decode cX3_isPlacedAs 4 = .ok (.getfield 25, 3) := by decide +kernel
theorem dX3_isPlacedAs_7 : decode cX3_isPlacedAs 7 = .ok (.if_icmp .ge 24, 3) := by decide +kernel
theorem dX3_isPlacedAs_10 : decode cX3_isPlacedAs 10 = .ok (.aload_n 0, 1) := by decide +kernel
theorem dX3_isPlacedAs_11 : decode cX3_isPlacedAs 11 = .ok (.iload_n 2, 1) := by decide +kernel
theorem dX3_isPlacedAs_12 : decode cX3_isPlacedAs 12 = .ok (.invokevirtual 37, 3) := by decide +kernel
theorem dX3_isPlacedAs_15 : decode cX3_isPlacedAs 15 = .ok (.aload_n 1, 1) := by decide +kernel
theorem dX3_isPlacedAs_16 : decode cX3_isPlacedAs 16 = .ok (.iload_n 2, 1) := by decide +kernel
theorem dX3_isPlacedAs_17 : decode cX3_isPlacedAs 17 = .ok (.invokevirtual 37, 3) := by decide +kernel
theorem dX3_isPlacedAs_20 : decode cX3_isPlacedAs 20 = .ok (.if_icmp .eq 5, 3) := by decide +kernel
theorem dX3_isPlacedAs_23 : decode cX3_isPlacedAs 23 = .ok (.iconst 0, 1) := by decide +kernel
theorem dX3_isPlacedAs_24 : decode cX3_isPlacedAs 24 = .ok (.ireturn, 1) := by decide +kernel
theorem dX3_isPlacedAs_25 : decode cX3_isPlacedAs 25 = .ok (.iinc 2 1, 3) := by decide +kernel
theorem dX3_isPlacedAs_28 : decode cX3_isPlacedAs 28 = .ok (.goto (-26), 3) := by decide +kernel
theorem dX3_isPlacedAs_31 : decode cX3_isPlacedAs 31 = .ok (.aload_n 0, 1) := by decide +kernel
theorem dX3_isPlacedAs_32 : decode cX3_isPlacedAs 32 = .ok (.getfield 25, 3) := by decide +kernel
theorem dX3_isPlacedAs_35 : decode cX3_isPlacedAs 35 = .ok (.aload_n 1, 1) := by decide +kernel
theorem dX3_isPlacedAs_36 : decode cX3_isPlacedAs 36 = .ok (.getfield 25, 3) := by decide +kernel
theorem dX3_isPlacedAs_39 : decode cX3_isPlacedAs 39 = .ok (.if_icmp .ne 7, 3) := by decide +kernel
theorem dX3_isPlacedAs_42 : decode cX3_isPlacedAs 42 = .ok (.iconst 1, 1) := by decide +kernel
theorem dX3_isPlacedAs_43 : decode cX3_isPlacedAs 43 = .ok (.goto 4, 3) := by decide +kernel
theorem dX3_isPlacedAs_46 : decode cX3_isPlacedAs 46 = .ok (.iconst 0, 1) := by decide +kernel
theorem dX3_isPlacedAs_47 : decode cX3_isPlacedAs 47 = .ok (.ireturn, 1) := by decide +kernel
theorem dX3_turnAt_0 : decode cX3_turnAt 0 = .ok (.aload_n 0, 1) := by decide +kernel
theorem dX3_turnAt_1 : decode cX3_turnAt 1 = .ok (.iload_n 1, 1) := by decide +kernel
theorem dX3_turnAt_2 : decode cX3_turnAt 2 = .ok (.invokevirtual 33, 3) := by decide +kernel
theorem dX3_turnAt_5 : decode cX3_turnAt 5 = .ok (.ifCond .eq 13, 3) := by decide +kernel
theorem dX3_turnAt_8 : decode cX3_turnAt 8 = .ok (.aload_n 0, 1) := by decide +kernel
theorem dX3_turnAt_9 : decode cX3_turnAt 9 = .ok (.getfield 9, 3) := by decide +kernel
theorem dX3_turnAt_12 : decode cX3_turnAt 12 = .ok (.iload_n 1, 1) := by decide +kernel
theorem dX3_turnAt_13 : decode cX3_turnAt 13 = .ok (.dup2, 1) := by decide +kernel
theorem dX3_turnAt_14 : decode cX3_turnAt 14 = .ok (.iaload, 1) := by decide +kernel
theorem dX3_turnAt_15 : decode cX3_turnAt 15 = .ok (.iconst 1, 1) := by decide +kernel
theorem dX3_turnAt_16 : decode cX3_turnAt 16 = .ok (.ixor, 1) := by decide +kernel
theorem dX3_turnAt_17 : decode cX3_turnAt 17 = .ok (.iastore, 1) := by decide +kernel
theorem dX3_turnAt_18 : decode cX3_turnAt 18 = .ok (.return_, 1) := by decide +kernel
theorem dX3_copy_0 : decode cX3_copy 0 = .ok (.aload_n 0, 1) := by decide +kernel
theorem dX3_copy_1 : decode cX3_copy 1 = .ok (.aload_n 1, 1) := by decide +kernel
theorem dX3_copy_2 : decode cX3_copy 2 = .ok (.getfield 25, 3) := by decide +kernel
theorem dX3_copy_5 : decode cX3_copy 5 = .ok (.putfield 25, 3) := by decide +kernel
theorem dX3_copy_8 : decode cX3_copy 8 = .ok (.aload_n 1, 1) := by decide +kernel
theorem dX3_copy_9 : decode cX3_copy 9 = .ok (.getfield 9, 3) := by decide +kernel
theorem dX3_copy_12 : decode cX3_copy 12 = .ok (.iconst 0, 1) := by decide +kernel
theorem dX3_copy_13 : decode cX3_copy 13 = .ok (.aload_n 0, 1) := by decide +kernel
theorem dX3_copy_14 : decode cX3_copy 14 = .ok (.getfield 9, 3) := by decide +kernel
theorem dX3_copy_17 : decode cX3_copy 17 = .ok (.iconst 0, 1) := by decide +kernel
theorem dX3_copy_18 : decode cX3_copy 18 = .ok (.bipush 16, 2) := by decide +kernel
theorem dX3_copy_20 : decode cX3_copy 20 = .ok (.invokestatic 41, 3) := by decide +kernel
theorem dX3_copy_23 : decode cX3_copy 23 = .ok (.return_, 1) := by decide +kernel
theorem dX3_save_0 : decode cX3_save 0 = .ok (.aload_n 0, 1) := by decide +kernel
theorem dX3_save_1 : decode cX3_save 1 = .ok (.getfield 9, 3) := by decide +kernel
theorem dX3_save_4 : decode cX3_save 4 = .ok (.iconst 0, 1) := by decide +kernel
theorem dX3_save_5 : decode cX3_save 5 = .ok (.aload_n 1, 1) := by decide +kernel
theorem dX3_save_6 : decode cX3_save 6 = .ok (.iconst 0, 1) := by decide +kernel
theorem dX3_save_7 : decode cX3_save 7 = .ok (.aload_n 1, 1) := by decide +kernel
theorem dX3_save_8 : decode cX3_save 8 = .ok (.arraylength, 1) := by decide +kernel
theorem dX3_save_9 : decode cX3_save 9 = .ok (.bipush 16, 2) := by decide +kernel
theorem dX3_save_11 : decode cX3_save 11 = .ok (.invokestatic 47, 3) := by decide +kernel
theorem dX3_save_14 : decode cX3_save 14 = .ok (.invokestatic 41, 3) := by decide +kernel
theorem dX3_save_17 : decode cX3_save 17 = .ok (.return_, 1) := by decide +kernel
theorem dX3_restore_0 : decode cX3_restore 0 = .ok (.aload_n 1, 1) := by decide +kernel
theorem dX3_restore_1 : decode cX3_restore 1 = .ok (.iconst 0, 1) := by decide +kernel
theorem dX3_restore_2 : decode cX3_restore 2 = .ok (.aload_n 0, 1) := by decide +kernel
theorem dX3_restore_3 : decode cX3_restore 3 = .ok (.getfield 9, 3) := by decide +kernel
theorem dX3_restore_6 : decode cX3_restore 6 = .ok (.iconst 0, 1) := by decide +kernel
theorem dX3_restore_7 : decode cX3_restore 7 = .ok (.aload_n 1, 1) := by decide +kernel
theorem dX3_restore_8 : decode cX3_restore 8 = .ok (.arraylength, 1) := by decide +kernel
theorem dX3_restore_9 : decode cX3_restore 9 = .ok (.bipush 16, 2) := by decide +kernel
theorem dX3_restore_11 : decode cX3_restore 11 = .ok (.invokestatic 47, 3) := by decide +kernel
theorem dX3_restore_14 : decode cX3_restore 14 = .ok (.invokestatic 41, 3) := by decide +kernel
theorem dX3_restore_17 : decode cX3_restore 17 = .ok (.return_, 1) := by decide +kernel
theorem dX3_follow_0 : decode cX3_follow 0 = .ok (.aload_n 0, 1) := by decide +kernel
theorem dX3_follow_1 : decode cX3_follow 1 = .ok (.getfield 9, 3) := by decide +kernel
theorem dX3_follow_4 : decode cX3_follow 4 = .ok (.iconst 0, 1) := by decide +kernel
theorem dX3_follow_5 : decode cX3_follow 5 = .ok (.aload_n 0, 1) := by decide +kernel
theorem dX3_follow_6 : decode cX3_follow 6 = .ok (.getfield 15, 3) := by decide +kernel
theorem dX3_follow_9 : decode cX3_follow 9 = .ok (.iconst 0, 1) := by decide +kernel
theorem dX3_follow_10 : decode cX3_follow 10 = .ok (.bipush 16, 2) := by decide +kernel
theorem dX3_follow_12 : decode cX3_follow 12 = .ok (.invokestatic 41, 3) := by decide +kernel
theorem dX3_follow_15 : decode cX3_follow 15 = .ok (.iconst 0, 1) := by decide +kernel
theorem dX3_follow_16 : decode cX3_follow 16 = .ok (.istore_n 2, 1) := by decide +kernel
theorem dX3_follow_17 : decode cX3_follow 17 = .ok (.iload_n 2, 1) := by decide +kernel
theorem dX3_follow_18 : decode cX3_follow 18 = .ok (.aload_n 0, 1) := by decide +kernel
theorem dX3_follow_19 : decode cX3_follow 19 = .ok (.getfield 25, 3) := by decide +kernel
theorem dX3_follow_22 : decode cX3_follow 22 = .ok (.if_icmp .ge 61, 3) := by decide +kernel
theorem dX3_follow_25 : decode cX3_follow 25 = .ok (.aload_n 1, 1) := by decide +kernel
theorem dX3_follow_26 : decode cX3_follow 26 = .ok (.iload_n 2, 1) := by decide +kernel
theorem dX3_follow_27 : decode cX3_follow 27 = .ok (.invokevirtual 37, 3) := by decide +kernel
theorem dX3_follow_30 : decode cX3_follow 30 = .ok (.istore_n 3, 1) := by decide +kernel
theorem dX3_follow_31 : decode cX3_follow 31 = .ok (.aload_n 1, 1) := by decide +kernel
theorem dX3_follow_32 : decode cX3_follow 32 = .ok (.iload_n 2, 1) := by decide +kernel
theorem dX3_follow_33 : decode cX3_follow 33 = .ok (.invokevirtual 53, 3) := by decide +kernel
theorem dX3_follow_36 : decode cX3_follow 36 = .ok (.ifCond .eq 7, 3) := by decide +kernel
theorem dX3_follow_39 : decode cX3_follow 39 = .ok (.iconst 1, 1) := by decide +kernel
theorem dX3_follow_40 : decode cX3_follow 40 = .ok (.goto 4, 3) := by decide +kernel
theorem dX3_follow_43 : decode cX3_follow 43 = .ok (.iconst 0, 1) := by decide +kernel
theorem dX3_follow_44 : decode cX3_follow 44 = .ok (.istore 4, 2) := by decide +kernel
theorem dX3_follow_46 : decode cX3_follow 46 = .ok (.aload_n 0, 1) := by decide +kernel
theorem dX3_follow_47 : decode cX3_follow 47 = .ok (.iload_n 2, 1) := by decide +kernel
theorem dX3_follow_48 : decode cX3_follow 48 = .ok (.invokevirtual 33, 3) := by decide +kernel
theorem dX3_follow_51 : decode cX3_follow 51 = .ok (.ifCond .eq 26, 3) := by decide +kernel
theorem dX3_follow_54 : decode cX3_follow 54 = .ok (.aload_n 0, 1) := by decide +kernel
theorem dX3_follow_55 : decode cX3_follow 55 = .ok (.iload_n 3, 1) := by decide +kernel
theorem dX3_follow_56 : decode cX3_follow 56 = .ok (.invokevirtual 33, 3) := by decide +kernel
theorem dX3_follow_59 : decode cX3_follow 59 = .ok (.ifCond .eq 18, 3) := by decide +kernel
theorem dX3_follow_62 : decode cX3_follow 62 = .ok (.aload_n 0, 1) := by decide +kernel
theorem dX3_follow_63 : decode cX3_follow 63 = .ok (.getfield 9, 3) := by decide +kernel
theorem dX3_follow_66 : decode cX3_follow 66 = .ok (.iload_n 2, 1) := by decide +kernel
theorem dX3_follow_67 : decode cX3_follow 67 = .ok (.aload_n 0, 1) := by decide +kernel
theorem dX3_follow_68 : decode cX3_follow 68 = .ok (.getfield 15, 3) := by decide +kernel
theorem dX3_follow_71 : decode cX3_follow 71 = .ok (.iload_n 3, 1) := by decide +kernel
theorem dX3_follow_72 : decode cX3_follow 72 = .ok (.iaload, 1) := by decide +kernel
theorem dX3_follow_73 : decode cX3_follow 73 = .ok (.iload 4, 2) := by decide +kernel
theorem dX3_follow_75 : decode cX3_follow 75 = .ok (.ixor, 1) := by decide +kernel
theorem dX3_follow_76 : decode cX3_follow 76 = .ok (.iastore, 1) := by decide +kernel
theorem dX3_follow_77 : decode cX3_follow 77 = .ok (.iinc 2 1, 3) := by decide +kernel
theorem dX3_follow_80 : decode cX3_follow 80 = .ok (.goto (-63), 3) := by decide +kernel
theorem dX3_follow_83 : decode cX3_follow 83 = .ok (.return_, 1) := by decide +kernel
theorem dX3_followOften_0 : decode cX3_followOften 0 = .ok (.iload_n 2, 1) := by decide +kernel
theorem dX3_followOften_1 : decode cX3_followOften 1 = .ok (.istore_n 3, 1) := by decide +kernel
theorem dX3_followOften_2 : decode cX3_followOften 2 = .ok (.iload_n 3, 1) := by decide +kernel
theorem dX3_followOften_3 : decode cX3_followOften 3 = .ok (.ifCond .le 26, 3) := by decide +kernel
theorem dX3_followOften_6 : decode cX3_followOften 6 = .ok (.iload_n 3, 1) := by decide +kernel
theorem dX3_followOften_7 : decode cX3_followOften 7 = .ok (.iconst 1, 1) := by decide +kernel
theorem dX3_followOften_8 : decode cX3_followOften 8 = .ok (.iand, 1) := by decide +kernel
theorem dX3_followOften_9 : decode cX3_followOften 9 = .ok (.ifCond .eq 8, 3) := by decide +kernel
theorem dX3_followOften_12 : decode cX3_followOften 12 = .ok (.aload_n 0, 1) := by decide +kernel
theorem dX3_followOften_13 : decode cX3_followOften 13 = .ok (.aload_n 1, 1) := by decide +kernel
theorem dX3_followOften_14 : decode cX3_followOften 14 = .ok (.invokevirtual 56, 3) := by decide +kernel
theorem dX3_followOften_17 : decode cX3_followOften 17 = .ok (.aload_n 1, 1) := by decide +kernel
theorem dX3_followOften_18 : decode cX3_followOften 18 = .ok (.aload_n 1, 1) := by decide +kernel
theorem dX3_followOften_19 : decode cX3_followOften 19 = .ok (.invokevirtual 56, 3) := by decide +kernel
theorem dX3_followOften_22 : decode cX3_followOften 22 = .ok (.iload_n 3, 1) := by decide +kernel
theorem dX3_followOften_23 : decode cX3_followOften 23 = .ok (.iconst 1, 1) := by decide +kernel
theorem dX3_followOften_24 : decode cX3_followOften 24 = .ok (.ishr, 1) := by decide +kernel
theorem dX3_followOften_25 : decode cX3_followOften 25 = .ok (.istore_n 3, 1) := by decide +kernel
theorem dX3_followOften_26 : decode cX3_followOften 26 = .ok (.goto (-24), 3) := by decide +kernel
theorem dX3_followOften_29 : decode cX3_followOften 29 = .ok (.return_, 1) := by decide +kernel
theorem dX4_init_0 : decode cX4_init 0 = .ok (.aload_n 0, 1) := by decide +kernel
theorem dX4_init_1 : decode cX4_init 1 = .ok (.invokespecial 3, 3) := by decide +kernel
theorem dX4_init_4 : decode cX4_init 4 = .ok (.aload_n 0, 1) := by decide +kernel
theorem dX4_init_5 : decode cX4_init 5 = .ok (.bipush 8, 2) := by decide +kernel
theorem dX4_init_7 : decode cX4_init 7 = .ok (.newarray .int, 2) := by decide +kernel
theorem dX4_init_9 : decode cX4_init 9 = .ok (.putfield 9, 3) := by decide +kernel
theorem dX4_init_12 : decode cX4_init 12 = .ok (.aload_n 0, 1) := by decide +kernel
theorem dX4_init_13 : decode cX4_init 13 = .ok (.bipush 8, 2) := by decide +kernel
theorem dX4_init_15 : decode cX4_init 15 = .ok (.newarray .int, 2) := by decide +kernel
theorem dX4_init_17 : decode cX4_init 17 = .ok (.putfield 15, 3) := by decide +kernel
theorem dX4_init_20 : decode cX4_init 20 = .ok (.return_, 1) := by decide +kernel
theorem dX4_length_0 : decode cX4_length 0 = .ok (.aload_n 0, 1) := by decide +kernel
theorem dX4_length_1 : decode cX4_length 1 = .ok (.getfield 18, 3) := by decide +kernel
theorem dX4_length_4 : decode cX4_length 4 = .ok (.ireturn, 1) := by decide +kernel
theorem dX4_add_0 : decode cX4_add 0 = .ok (.aload_n 0, 1) := by decide +kernel
theorem dX4_add_1 : decode cX4_add 1 = .ok (.getfield 18, 3) := by decide +kernel
theorem dX4_add_4 : decode cX4_add 4 = .ok (.bipush 8, 2) := by decide +kernel
theorem dX4_add_6 : decode cX4_add 6 = .ok (.if_icmp .ge 33, 3) := by decide +kernel
theorem dX4_add_9 : decode cX4_add 9 = .ok (.aload_n 0, 1) := by decide +kernel
theorem dX4_add_10 : decode cX4_add 10 = .ok (.getfield 9, 3) := by decide +kernel
theorem dX4_add_13 : decode cX4_add 13 = .ok (.aload_n 0, 1) := by decide +kernel
theorem dX4_add_14 : decode cX4_add 14 = .ok (.getfield 18, 3) := by decide +kernel
theorem dX4_add_17 : decode cX4_add 17 = .ok (.iload_n 1, 1) := by decide +kernel
theorem dX4_add_18 : decode cX4_add 18 = .ok (.iastore, 1) := by decide +kernel
theorem dX4_add_19 : decode cX4_add 19 = .ok (.aload_n 0, 1) := by decide +kernel
theorem dX4_add_20 : decode cX4_add 20 = .ok (.getfield 15, 3) := by decide +kernel
theorem dX4_add_23 : decode cX4_add 23 = .ok (.aload_n 0, 1) := by decide +kernel
theorem dX4_add_24 : decode cX4_add 24 = .ok (.getfield 18, 3) := by decide +kernel
theorem dX4_add_27 : decode cX4_add 27 = .ok (.iload_n 2, 1) := by decide +kernel
theorem dX4_add_28 : decode cX4_add 28 = .ok (.iastore, 1) := by decide +kernel
theorem dX4_add_29 : decode cX4_add 29 = .ok (.aload_n 0, 1) := by decide +kernel
theorem dX4_add_30 : decode cX4_add 30 = .ok (.dup, 1) := by decide +kernel
theorem dX4_add_31 : decode cX4_add 31 = .ok (.getfield 18, 3) := by decide +kernel
theorem dX4_add_34 : decode cX4_add 34 = .ok (.iconst 1, 1) := by decide +kernel
theorem dX4_add_35 : decode cX4_add 35 = .ok (.iadd, 1) := by decide +kernel
theorem dX4_add_36 : decode cX4_add 36 = .ok (.putfield 18, 3) := by decide +kernel
theorem dX4_add_39 : decode cX4_add 39 = .ok (.return_, 1) := by decide +kernel
theorem dX4_kindAt_0 : decode cX4_kindAt 0 = .ok (.aload_n 0, 1) := by decide +kernel
theorem dX4_kindAt_1 : decode cX4_kindAt 1 = .ok (.iload_n 1, 1) := by decide +kernel
theorem dX4_kindAt_2 : decode cX4_kindAt 2 = .ok (.invokevirtual 22, 3) := by decide +kernel
theorem dX4_kindAt_5 : decode cX4_kindAt 5 = .ok (.ifCond .eq 12, 3) := by decide +kernel
theorem dX4_kindAt_8 : decode cX4_kindAt 8 = .ok (.aload_n 0, 1) := by decide +kernel
theorem dX4_kindAt_9 : decode cX4_kindAt 9 = .ok (.getfield 9, 3) := by decide +kernel
theorem dX4_kindAt_12 : decode cX4_kindAt 12 = .ok (.iload_n 1, 1) := by decide +kernel
theorem dX4_kindAt_13 : decode cX4_kindAt 13 = .ok (.iaload, 1) := by decide +kernel
theorem dX4_kindAt_14 : decode cX4_kindAt 14 = .ok (.goto 4, 3) := by decide +kernel
theorem dX4_kindAt_17 : decode cX4_kindAt 17 = .ok (.iconst (-1), 1) := by decide +kernel
theorem dX4_kindAt_18 : decode cX4_kindAt 18 = .ok (.ireturn, 1) := by decide +kernel
theorem dX4_numberAt_0 : decode cX4_numberAt 0 = .ok (.aload_n 0, 1) := by decide +kernel
theorem dX4_numberAt_1 : decode cX4_numberAt 1 = .ok (.iload_n 1, 1) := by decide +kernel
theorem dX4_numberAt_2 : decode cX4_numberAt 2 = .ok (.invokevirtual 22, 3) := by decide +kernel
theorem dX4_numberAt_5 : decode cX4_numberAt 5 = .ok (.ifCond .eq 12, 3) := by decide +kernel
theorem dX4_numberAt_8 : decode cX4_numberAt 8 = .ok (.aload_n 0, 1) := by decide +kernel
theorem dX4_numberAt_9 : decode cX4_numberAt 9 = .ok (.getfield 15, 3) := by decide +kernel
theorem dX4_numberAt_12 : decode cX4_numberAt 12 = .ok (.iload_n 1, 1) := by decide +kernel
theorem dX4_numberAt_13 : decode cX4_numberAt 13 = .ok (.iaload, 1) := by decide +kernel
theorem dX4_numberAt_14 : decode cX4_numberAt 14 = .ok (.goto 4, 3) := by decide +kernel
theorem dX4_numberAt_17 : decode cX4_numberAt 17 = .ok (.iconst (-1), 1) := by decide +kernel
theorem dX4_numberAt_18 : decode cX4_numberAt 18 = .ok (.ireturn, 1) := by decide +kernel
theorem dX4_has_0 : decode cX4_has 0 = .ok (.iload_n 1, 1) := by decide +kernel
theorem dX4_has_1 : decode cX4_has 1 = .ok (.ifCond .lt 21, 3) := by decide +kernel
theorem dX4_has_4 : decode cX4_has 4 = .ok (.iload_n 1, 1) := by decide +kernel
theorem dX4_has_5 : decode cX4_has 5 = .ok (.aload_n 0, 1) := by decide +kernel
theorem dX4_has_6 : decode cX4_has 6 = .ok (.getfield 18, 3) := by decide +kernel
theorem dX4_has_9 : decode cX4_has 9 = .ok (.if_icmp .ge 13, 3) := by decide +kernel
theorem dX4_has_12 : decode cX4_has 12 = .ok (.iload_n 1, 1) := by decide +kernel
theorem dX4_has_13 : decode cX4_has 13 = .ok (.bipush 8, 2) := by decide +kernel
theorem dX4_has_15 : decode cX4_has 15 = .ok (.if_icmp .ge 7, 3) := by decide +kernel
theorem dX4_has_18 : decode cX4_has 18 = .ok (.iconst 1, 1) := by decide +kernel
theorem dX4_has_19 : decode cX4_has 19 = .ok (.goto 4, 3) := by decide +kernel
theorem dX4_has_22 : decode cX4_has 22 = .ok (.iconst 0, 1) := by decide +kernel
theorem dX4_has_23 : decode cX4_has 23 = .ok (.ireturn, 1) := by decide +kernel
theorem dX4_lay_0 : decode cX4_lay 0 = .ok (.aload_n 1, 1) := by decide +kernel
theorem dX4_lay_1 : decode cX4_lay 1 = .ok (.iload_n 3, 1) := by decide +kernel
theorem dX4_lay_2 : decode cX4_lay 2 = .ok (.invokevirtual 26, 3) := by decide +kernel
theorem dX4_lay_5 : decode cX4_lay 5 = .ok (.iconst 0, 1) := by decide +kernel
theorem dX4_lay_6 : decode cX4_lay 6 = .ok (.istore 4, 2) := by decide +kernel
theorem dX4_lay_8 : decode cX4_lay 8 = .ok (.iload 4, 2) := by decide +kernel
theorem dX4_lay_10 : decode cX4_lay 10 = .ok (.aload_n 0, 1) := by decide +kernel
theorem dX4_lay_11 : decode cX4_lay 11 = .ok (.getfield 18, 3) := by decide +kernel
theorem dX4_lay_14 : decode cX4_lay 14 = .ok (.if_icmp .ge 36, 3) := by decide +kernel
theorem dX4_lay_17 : decode cX4_lay 17 = .ok (.aload_n 2, 1) := by decide +kernel
theorem dX4_lay_18 : decode cX4_lay 18 = .ok (.aload_n 0, 1) := by decide +kernel
theorem dX4_lay_19 : decode cX4_lay 19 = .ok (.iload 4, 2) := by decide +kernel
theorem dX4_lay_21 : decode cX4_lay 21 = .ok (.invokevirtual 32, 3) := by decide +kernel
theorem dX4_lay_24 : decode cX4_lay 24 = .ok (.aload_n 0, 1) := by decide +kernel
theorem dX4_lay_25 : decode cX4_lay 25 = .ok (.iload 4, 2) := by decide +kernel
theorem dX4_lay_27 : decode cX4_lay 27 = .ok (.invokevirtual 36, 3) := by decide +kernel
theorem dX4_lay_30 : decode cX4_lay 30 = .ok (.iload_n 3, 1) := by decide +kernel
theorem dX4_lay_31 : decode cX4_lay 31 = .ok (.invokestatic 39, 3) := by decide +kernel
theorem dX4_lay_34 : decode cX4_lay 34 = .ok (.ifCond .ne 5, 3) := by decide +kernel
theorem dX4_lay_37 : decode cX4_lay 37 = .ok (.iconst 0, 1) := by decide +kernel
theorem dX4_lay_38 : decode cX4_lay 38 = .ok (.ireturn, 1) := by decide +kernel
theorem dX4_lay_39 : decode cX4_lay 39 = .ok (.aload_n 1, 1) := by decide +kernel
theorem dX4_lay_40 : decode cX4_lay 40 = .ok (.aload_n 2, 1) := by decide +kernel
theorem dX4_lay_41 : decode cX4_lay 41 = .ok (.invokevirtual 45, 3) := by decide +kernel
theorem dX4_lay_44 : decode cX4_lay 44 = .ok (.iinc 4 1, 3) := by decide +kernel
theorem dX4_lay_47 : decode cX4_lay 47 = .ok (.goto (-39), 3) := by decide +kernel
theorem dX4_lay_50 : decode cX4_lay 50 = .ok (.iconst 1, 1) := by decide +kernel
theorem dX4_lay_51 : decode cX4_lay 51 = .ok (.ireturn, 1) := by decide +kernel
theorem dX5_lay_0 : decode cX5_lay 0 = .ok (.iload_n 1, 1) := by decide +kernel
theorem dX5_lay_1 : decode cX5_lay 1 = .ok (.iload_n 2, 1) := by decide +kernel
theorem dX5_lay_2 : decode cX5_lay 2 = .ok (.iload_n 3, 1) := by decide +kernel
theorem dX5_lay_3 : decode cX5_lay 3 = .ok (.invokestatic 9, 3) := by decide +kernel
theorem dX5_lay_6 : decode cX5_lay 6 = .ok (.ifCond .ne 5, 3) := by decide +kernel
theorem dX5_lay_9 : decode cX5_lay 9 = .ok (.iconst 0, 1) := by decide +kernel
theorem dX5_lay_10 : decode cX5_lay 10 = .ok (.ireturn, 1) := by decide +kernel
theorem dX5_lay_11 : decode cX5_lay 11 = .ok (.aload_n 0, 1) := by decide +kernel
theorem dX5_lay_12 : decode cX5_lay 12 = .ok (.invokevirtual 15, 3) := by decide +kernel
theorem dX5_lay_15 : decode cX5_lay 15 = .ok (.iload_n 1, 1) := by decide +kernel
theorem dX5_lay_16 : decode cX5_lay 16 = .ok (.tableswitch 147 0 8 #[52, 67, 81, 95, 103, 111, 120, 129, 138], 52) := by decide +kernel
theorem dX5_lay_68 : decode cX5_lay 68 = .ok (.aload_n 0, 1) := by decide +kernel
theorem dX5_lay_69 : decode cX5_lay 69 = .ok (.iload_n 2, 1) := by decide +kernel
theorem dX5_lay_70 : decode cX5_lay 70 = .ok (.iload_n 3, 1) := by decide +kernel
theorem dX5_lay_71 : decode cX5_lay 71 = .ok (.invokevirtual 20, 3) := by decide +kernel
theorem dX5_lay_74 : decode cX5_lay 74 = .ok (.aload_n 0, 1) := by decide +kernel
theorem dX5_lay_75 : decode cX5_lay 75 = .ok (.iconst 0, 1) := by decide +kernel
theorem dX5_lay_76 : decode cX5_lay 76 = .ok (.iload_n 2, 1) := by decide +kernel
theorem dX5_lay_77 : decode cX5_lay 77 = .ok (.invokevirtual 20, 3) := by decide +kernel
theorem dX5_lay_80 : decode cX5_lay 80 = .ok (.goto 89, 3) := by decide +kernel
theorem dX5_lay_83 : decode cX5_lay 83 = .ok (.aload_n 0, 1) := by decide +kernel
theorem dX5_lay_84 : decode cX5_lay 84 = .ok (.iconst 0, 1) := by decide +kernel
theorem dX5_lay_85 : decode cX5_lay 85 = .ok (.iload_n 3, 1) := by decide +kernel
theorem dX5_lay_86 : decode cX5_lay 86 = .ok (.iconst 2, 1) := by decide +kernel
theorem dX5_lay_87 : decode cX5_lay 87 = .ok (.idiv, 1) := by decide +kernel
theorem dX5_lay_88 : decode cX5_lay 88 = .ok (.iload_n 3, 1) := by decide +kernel
theorem dX5_lay_89 : decode cX5_lay 89 = .ok (.iconst 2, 1) := by decide +kernel
theorem dX5_lay_90 : decode cX5_lay 90 = .ok (.idiv, 1) := by decide +kernel
theorem dX5_lay_91 : decode cX5_lay 91 = .ok (.invokestatic 24, 3) := by decide +kernel
theorem dX5_lay_94 : decode cX5_lay 94 = .ok (.goto 75, 3) := by decide +kernel
theorem dX5_lay_97 : decode cX5_lay 97 = .ok (.aload_n 0, 1) := by decide +kernel
theorem dX5_lay_98 : decode cX5_lay 98 = .ok (.iload_n 3, 1) := by decide +kernel
theorem dX5_lay_99 : decode cX5_lay 99 = .ok (.iconst 2, 1) := by decide +kernel
theorem dX5_lay_100 : decode cX5_lay 100 = .ok (.idiv, 1) := by decide +kernel
theorem dX5_lay_101 : decode cX5_lay 101 = .ok (.iconst 0, 1) := by decide +kernel
theorem dX5_lay_102 : decode cX5_lay 102 = .ok (.iload_n 3, 1) := by decide +kernel
theorem dX5_lay_103 : decode cX5_lay 103 = .ok (.iconst 2, 1) := by decide +kernel
theorem dX5_lay_104 : decode cX5_lay 104 = .ok (.idiv, 1) := by decide +kernel
theorem dX5_lay_105 : decode cX5_lay 105 = .ok (.invokestatic 24, 3) := by decide +kernel
theorem dX5_lay_108 : decode cX5_lay 108 = .ok (.goto 61, 3) := by decide +kernel
theorem dX5_lay_111 : decode cX5_lay 111 = .ok (.aload_n 0, 1) := by decide +kernel
theorem dX5_lay_112 : decode cX5_lay 112 = .ok (.iload_n 3, 1) := by decide +kernel
theorem dX5_lay_113 : decode cX5_lay 113 = .ok (.invokestatic 28, 3) := by decide +kernel
theorem dX5_lay_116 : decode cX5_lay 116 = .ok (.goto 53, 3) := by decide +kernel
theorem dX5_lay_119 : decode cX5_lay 119 = .ok (.aload_n 0, 1) := by decide +kernel
theorem dX5_lay_120 : decode cX5_lay 120 = .ok (.iload_n 3, 1) := by decide +kernel
theorem dX5_lay_121 : decode cX5_lay 121 = .ok (.invokestatic 32, 3) := by decide +kernel
theorem dX5_lay_124 : decode cX5_lay 124 = .ok (.goto 45, 3) := by decide +kernel
theorem dX5_lay_127 : decode cX5_lay 127 = .ok (.aload_n 0, 1) := by decide +kernel
theorem dX5_lay_128 : decode cX5_lay 128 = .ok (.iload_n 2, 1) := by decide +kernel
theorem dX5_lay_129 : decode cX5_lay 129 = .ok (.iload_n 3, 1) := by decide +kernel
theorem dX5_lay_130 : decode cX5_lay 130 = .ok (.invokestatic 35, 3) := by decide +kernel
theorem dX5_lay_133 : decode cX5_lay 133 = .ok (.goto 36, 3) := by decide +kernel
theorem dX5_lay_136 : decode cX5_lay 136 = .ok (.aload_n 0, 1) := by decide +kernel
theorem dX5_lay_137 : decode cX5_lay 137 = .ok (.iload_n 2, 1) := by decide +kernel
theorem dX5_lay_138 : decode cX5_lay 138 = .ok (.iload_n 3, 1) := by decide +kernel
theorem dX5_lay_139 : decode cX5_lay 139 = .ok (.invokestatic 39, 3) := by decide +kernel
theorem dX5_lay_142 : decode cX5_lay 142 = .ok (.goto 27, 3) := by decide +kernel
theorem dX5_lay_145 : decode cX5_lay 145 = .ok (.aload_n 0, 1) := by decide +kernel
theorem dX5_lay_146 : decode cX5_lay 146 = .ok (.iload_n 2, 1) := by decide +kernel
theorem dX5_lay_147 : decode cX5_lay 147 = .ok (.iload_n 3, 1) := by decide +kernel
theorem dX5_lay_148 : decode cX5_lay 148 = .ok (.invokestatic 42, 3) := by decide +kernel
theorem dX5_lay_151 : decode cX5_lay 151 = .ok (.goto 18, 3) := by decide +kernel
theorem dX5_lay_154 : decode cX5_lay 154 = .ok (.aload_n 0, 1) := by decide +kernel
theorem dX5_lay_155 : decode cX5_lay 155 = .ok (.iload_n 2, 1) := by decide +kernel
theorem dX5_lay_156 : decode cX5_lay 156 = .ok (.iload_n 3, 1) := by decide +kernel
theorem dX5_lay_157 : decode cX5_lay 157 = .ok (.invokestatic 45, 3) := by decide +kernel
theorem dX5_lay_160 : decode cX5_lay 160 = .ok (.goto 9, 3) := by decide +kernel
theorem dX5_lay_163 : decode cX5_lay 163 = .ok (.aload_n 0, 1) := by decide +kernel
theorem dX5_lay_164 : decode cX5_lay 164 = .ok (.iload_n 2, 1) := by decide +kernel
theorem dX5_lay_165 : decode cX5_lay 165 = .ok (.iload_n 3, 1) := by decide +kernel
theorem dX5_lay_166 : decode cX5_lay 166 = .ok (.invokestatic 48, 3) := by decide +kernel
theorem dX5_lay_169 : decode cX5_lay 169 = .ok (.iconst 1, 1) := by decide +kernel
theorem dX5_lay_170 : decode cX5_lay 170 = .ok (.ireturn, 1) := by decide +kernel
theorem dX5_isOne_0 : decode cX5_isOne 0 = .ok (.iload_n 2, 1) := by decide +kernel
theorem dX5_isOne_1 : decode cX5_isOne 1 = .ok (.invokestatic 51, 3) := by decide +kernel
theorem dX5_isOne_4 : decode cX5_isOne 4 = .ok (.ifCond .ne 5, 3) := by decide +kernel
theorem dX5_isOne_7 : decode cX5_isOne 7 = .ok (.iconst 0, 1) := by decide +kernel
theorem dX5_isOne_8 : decode cX5_isOne 8 = .ok (.ireturn, 1) := by decide +kernel
theorem dX5_isOne_9 : decode cX5_isOne 9 = .ok (.iload_n 0, 1) := by decide +kernel
theorem dX5_isOne_10 : decode cX5_isOne 10 = .ok (.tableswitch 127 0 9 #[54, 63, 63, 79, 79, 89, 96, 96, 103, 114], 54) := by decide +kernel
theorem dX5_isOne_64 : decode cX5_isOne 64 = .ok (.iload_n 1, 1) := by decide +kernel
theorem dX5_isOne_65 : decode cX5_isOne 65 = .ok (.iconst 0, 1) := by decide +kernel
theorem dX5_isOne_66 : decode cX5_isOne 66 = .ok (.iload_n 2, 1) := by decide +kernel
theorem dX5_isOne_67 : decode cX5_isOne 67 = .ok (.iconst 1, 1) := by decide +kernel
theorem dX5_isOne_68 : decode cX5_isOne 68 = .ok (.isub, 1) := by decide +kernel
theorem dX5_isOne_69 : decode cX5_isOne 69 = .ok (.invokestatic 55, 3) := by decide +kernel
theorem dX5_isOne_72 : decode cX5_isOne 72 = .ok (.ireturn, 1) := by decide +kernel
theorem dX5_isOne_73 : decode cX5_isOne 73 = .ok (.iload_n 1, 1) := by decide +kernel
theorem dX5_isOne_74 : decode cX5_isOne 74 = .ok (.ifCond .ne 13, 3) := by decide +kernel
theorem dX5_isOne_77 : decode cX5_isOne 77 = .ok (.iload_n 2, 1) := by decide +kernel
theorem dX5_isOne_78 : decode cX5_isOne 78 = .ok (.iconst 2, 1) := by decide +kernel
theorem dX5_isOne_79 : decode cX5_isOne 79 = .ok (.irem, 1) := by decide +kernel
theorem dX5_isOne_80 : decode cX5_isOne 80 = .ok (.ifCond .ne 7, 3) := by decide +kernel
theorem dX5_isOne_83 : decode cX5_isOne 83 = .ok (.iconst 1, 1) := by decide +kernel
theorem dX5_isOne_84 : decode cX5_isOne 84 = .ok (.goto 4, 3) := by decide +kernel
theorem dX5_isOne_87 : decode cX5_isOne 87 = .ok (.iconst 0, 1) := by decide +kernel
theorem dX5_isOne_88 : decode cX5_isOne 88 = .ok (.ireturn, 1) := by decide +kernel
theorem dX5_isOne_89 : decode cX5_isOne 89 = .ok (.iload_n 1, 1) := by decide +kernel
theorem dX5_isOne_90 : decode cX5_isOne 90 = .ok (.ifCond .ne 7, 3) := by decide +kernel
theorem dX5_isOne_93 : decode cX5_isOne 93 = .ok (.iconst 1, 1) := by decide +kernel
theorem dX5_isOne_94 : decode cX5_isOne 94 = .ok (.goto 4, 3) := by decide +kernel
theorem dX5_isOne_97 : decode cX5_isOne 97 = .ok (.iconst 0, 1) := by decide +kernel
theorem dX5_isOne_98 : decode cX5_isOne 98 = .ok (.ireturn, 1) := by decide +kernel
theorem dX5_isOne_99 : decode cX5_isOne 99 = .ok (.iload_n 1, 1) := by decide +kernel
theorem dX5_isOne_100 : decode cX5_isOne 100 = .ok (.iconst 2, 1) := by decide +kernel
theorem dX5_isOne_101 : decode cX5_isOne 101 = .ok (.iconst 4, 1) := by decide +kernel
theorem dX5_isOne_102 : decode cX5_isOne 102 = .ok (.invokestatic 55, 3) := by decide +kernel
theorem dX5_isOne_105 : decode cX5_isOne 105 = .ok (.ireturn, 1) := by decide +kernel
theorem dX5_isOne_106 : decode cX5_isOne 106 = .ok (.iload_n 1, 1) := by decide +kernel
theorem dX5_isOne_107 : decode cX5_isOne 107 = .ok (.iconst 0, 1) := by decide +kernel
theorem dX5_isOne_108 : decode cX5_isOne 108 = .ok (.iload_n 2, 1) := by decide +kernel
theorem dX5_isOne_109 : decode cX5_isOne 109 = .ok (.invokestatic 55, 3) := by decide +kernel
theorem dX5_isOne_112 : decode cX5_isOne 112 = .ok (.ireturn, 1) := by decide +kernel
theorem dX5_isOne_113 : decode cX5_isOne 113 = .ok (.iload_n 1, 1) := by decide +kernel
theorem dX5_isOne_114 : decode cX5_isOne 114 = .ok (.iconst 0, 1) := by decide +kernel
theorem dX5_isOne_115 : decode cX5_isOne 115 = .ok (.iconst 1, 1) := by decide +kernel
theorem dX5_isOne_116 : decode cX5_isOne 116 = .ok (.iload_n 2, 1) := by decide +kernel
theorem dX5_isOne_117 : decode cX5_isOne 117 = .ok (.ishl, 1) := by decide +kernel
theorem dX5_isOne_118 : decode cX5_isOne 118 = .ok (.iconst 1, 1) := by decide +kernel
theorem dX5_isOne_119 : decode cX5_isOne 119 = .ok (.isub, 1) := by decide +kernel
theorem dX5_isOne_120 : decode cX5_isOne 120 = .ok (.invokestatic 55, 3) := by decide +kernel
theorem dX5_isOne_123 : decode cX5_isOne 123 = .ok (.ireturn, 1) := by decide +kernel
theorem dX5_isOne_124 : decode cX5_isOne 124 = .ok (.iload_n 1, 1) := by decide +kernel
theorem dX5_isOne_125 : decode cX5_isOne 125 = .ok (.iconst 0, 1) := by decide +kernel
theorem dX5_isOne_126 : decode cX5_isOne 126 = .ok (.iconst 1, 1) := by decide +kernel
theorem dX5_isOne_127 : decode cX5_isOne 127 = .ok (.iload_n 2, 1) := by decide +kernel
theorem dX5_isOne_128 : decode cX5_isOne 128 = .ok (.iconst 1, 1) := by decide +kernel
theorem dX5_isOne_129 : decode cX5_isOne 129 = .ok (.isub, 1) := by decide +kernel
theorem dX5_isOne_130 : decode cX5_isOne 130 = .ok (.ishl, 1) := by decide +kernel
theorem dX5_isOne_131 : decode cX5_isOne 131 = .ok (.iconst 1, 1) := by decide +kernel
theorem dX5_isOne_132 : decode cX5_isOne 132 = .ok (.isub, 1) := by decide +kernel
theorem dX5_isOne_133 : decode cX5_isOne 133 = .ok (.invokestatic 55, 3) := by decide +kernel
theorem dX5_isOne_136 : decode cX5_isOne 136 = .ok (.ireturn, 1) := by decide +kernel
theorem dX5_isOne_137 : decode cX5_isOne 137 = .ok (.iconst 0, 1) := by decide +kernel
theorem dX5_isOne_138 : decode cX5_isOne 138 = .ok (.ireturn, 1) := by decide +kernel
theorem dX5_layHalves_0 : decode cX5_layHalves 0 = .ok (.iconst 0, 1) := by decide +kernel
theorem dX5_layHalves_1 : decode cX5_layHalves 1 = .ok (.istore 4, 2) := by decide +kernel
theorem dX5_layHalves_3 : decode cX5_layHalves 3 = .ok (.iload 4, 2) := by decide +kernel
theorem dX5_layHalves_5 : decode cX5_layHalves 5 = .ok (.iload_n 3, 1) := by decide +kernel
theorem dX5_layHalves_6 : decode cX5_layHalves 6 = .ok (.if_icmp .ge 25, 3) := by decide +kernel
theorem dX5_layHalves_9 : decode cX5_layHalves 9 = .ok (.aload_n 0, 1) := by decide +kernel
theorem dX5_layHalves_10 : decode cX5_layHalves 10 = .ok (.iload_n 1, 1) := by decide +kernel
theorem dX5_layHalves_11 : decode cX5_layHalves 11 = .ok (.iload 4, 2) := by decide +kernel
theorem dX5_layHalves_13 : decode cX5_layHalves 13 = .ok (.iadd, 1) := by decide +kernel
theorem dX5_layHalves_14 : decode cX5_layHalves 14 = .ok (.invokevirtual 58, 3) := by decide +kernel
theorem dX5_layHalves_17 : decode cX5_layHalves 17 = .ok (.aload_n 0, 1) := by decide +kernel
theorem dX5_layHalves_18 : decode cX5_layHalves 18 = .ok (.iload_n 2, 1) := by decide +kernel
theorem dX5_layHalves_19 : decode cX5_layHalves 19 = .ok (.iload 4, 2) := by decide +kernel
theorem dX5_layHalves_21 : decode cX5_layHalves 21 = .ok (.iadd, 1) := by decide +kernel
theorem dX5_layHalves_22 : decode cX5_layHalves 22 = .ok (.invokevirtual 58, 3) := by decide +kernel
theorem dX5_layHalves_25 : decode cX5_layHalves 25 = .ok (.iinc 4 1, 3) := by decide +kernel
theorem dX5_layHalves_28 : decode cX5_layHalves 28 = .ok (.goto (-25), 3) := by decide +kernel
theorem dX5_layHalves_31 : decode cX5_layHalves 31 = .ok (.return_, 1) := by decide +kernel
theorem dX5_layMonge_0 : decode cX5_layMonge 0 = .ok (.iload_n 1, 1) := by decide +kernel
theorem dX5_layMonge_1 : decode cX5_layMonge 1 = .ok (.iconst 1, 1) := by decide +kernel
theorem dX5_layMonge_2 : decode cX5_layMonge 2 = .ok (.isub, 1) := by decide +kernel
theorem dX5_layMonge_3 : decode cX5_layMonge 3 = .ok (.istore_n 2, 1) := by decide +kernel
theorem dX5_layMonge_4 : decode cX5_layMonge 4 = .ok (.iload_n 2, 1) := by decide +kernel
theorem dX5_layMonge_5 : decode cX5_layMonge 5 = .ok (.ifCond .lt 21, 3) := by decide +kernel
theorem dX5_layMonge_8 : decode cX5_layMonge 8 = .ok (.iload_n 2, 1) := by decide +kernel
theorem dX5_layMonge_9 : decode cX5_layMonge 9 = .ok (.iconst 2, 1) := by decide +kernel
theorem dX5_layMonge_10 : decode cX5_layMonge 10 = .ok (.irem, 1) := by decide +kernel
theorem dX5_layMonge_11 : decode cX5_layMonge 11 = .ok (.iconst 1, 1) := by decide +kernel
theorem dX5_layMonge_12 : decode cX5_layMonge 12 = .ok (.if_icmp .ne 8, 3) := by decide +kernel
theorem dX5_layMonge_15 : decode cX5_layMonge 15 = .ok (.aload_n 0, 1) := by decide +kernel
theorem dX5_layMonge_16 : decode cX5_layMonge 16 = .ok (.iload_n 2, 1) := by decide +kernel
theorem dX5_layMonge_17 : decode cX5_layMonge 17 = .ok (.invokevirtual 58, 3) := by decide +kernel
theorem dX5_layMonge_20 : decode cX5_layMonge 20 = .ok (.iinc 2 (-1), 3) := by decide +kernel
theorem dX5_layMonge_23 : decode cX5_layMonge 23 = .ok (.goto (-19), 3) := by decide +kernel
theorem dX5_layMonge_26 : decode cX5_layMonge 26 = .ok (.iconst 0, 1) := by decide +kernel
theorem dX5_layMonge_27 : decode cX5_layMonge 27 = .ok (.istore_n 2, 1) := by decide +kernel
theorem dX5_layMonge_28 : decode cX5_layMonge 28 = .ok (.iload_n 2, 1) := by decide +kernel
theorem dX5_layMonge_29 : decode cX5_layMonge 29 = .ok (.iload_n 1, 1) := by decide +kernel
theorem dX5_layMonge_30 : decode cX5_layMonge 30 = .ok (.if_icmp .ge 14, 3) := by decide +kernel
theorem dX5_layMonge_33 : decode cX5_layMonge 33 = .ok (.aload_n 0, 1) := by decide +kernel
theorem dX5_layMonge_34 : decode cX5_layMonge 34 = .ok (.iload_n 2, 1) := by decide +kernel
theorem dX5_layMonge_35 : decode cX5_layMonge 35 = .ok (.invokevirtual 58, 3) := by decide +kernel
theorem dX5_layMonge_38 : decode cX5_layMonge 38 = .ok (.iinc 2 2, 3) := by decide +kernel
theorem dX5_layMonge_41 : decode cX5_layMonge 41 = .ok (.goto (-13), 3) := by decide +kernel
theorem dX5_layMonge_44 : decode cX5_layMonge 44 = .ok (.return_, 1) := by decide +kernel
theorem dX5_layMilk_0 : decode cX5_layMilk 0 = .ok (.iload_n 1, 1) := by decide +kernel
theorem dX5_layMilk_1 : decode cX5_layMilk 1 = .ok (.iconst 2, 1) := by decide +kernel
theorem dX5_layMilk_2 : decode cX5_layMilk 2 = .ok (.idiv, 1) := by decide +kernel
theorem dX5_layMilk_3 : decode cX5_layMilk 3 = .ok (.istore_n 2, 1) := by decide +kernel
theorem dX5_layMilk_4 : decode cX5_layMilk 4 = .ok (.iload_n 1, 1) := by decide +kernel
theorem dX5_layMilk_5 : decode cX5_layMilk 5 = .ok (.iconst 2, 1) := by decide +kernel
theorem dX5_layMilk_6 : decode cX5_layMilk 6 = .ok (.irem, 1) := by decide +kernel
theorem dX5_layMilk_7 : decode cX5_layMilk 7 = .ok (.iconst 1, 1) := by decide +kernel
theorem dX5_layMilk_8 : decode cX5_layMilk 8 = .ok (.if_icmp .ne 8, 3) := by decide +kernel
theorem dX5_layMilk_11 : decode cX5_layMilk 11 = .ok (.aload_n 0, 1) := by decide +kernel
theorem dX5_layMilk_12 : decode cX5_layMilk 12 = .ok (.iload_n 2, 1) := by decide +kernel
theorem dX5_layMilk_13 : decode cX5_layMilk 13 = .ok (.invokevirtual 58, 3) := by decide +kernel
theorem dX5_layMilk_16 : decode cX5_layMilk 16 = .ok (.iload_n 2, 1) := by decide +kernel
theorem dX5_layMilk_17 : decode cX5_layMilk 17 = .ok (.iconst 1, 1) := by decide +kernel
theorem dX5_layMilk_18 : decode cX5_layMilk 18 = .ok (.isub, 1) := by decide +kernel
theorem dX5_layMilk_19 : decode cX5_layMilk 19 = .ok (.istore_n 3, 1) := by decide +kernel
theorem dX5_layMilk_20 : decode cX5_layMilk 20 = .ok (.iload_n 3, 1) := by decide +kernel
theorem dX5_layMilk_21 : decode cX5_layMilk 21 = .ok (.ifCond .lt 23, 3) := by decide +kernel
theorem dX5_layMilk_24 : decode cX5_layMilk 24 = .ok (.aload_n 0, 1) := by decide +kernel
theorem dX5_layMilk_25 : decode cX5_layMilk 25 = .ok (.iload_n 3, 1) := by decide +kernel
theorem dX5_layMilk_26 : decode cX5_layMilk 26 = .ok (.invokevirtual 58, 3) := by decide +kernel
theorem dX5_layMilk_29 : decode cX5_layMilk 29 = .ok (.aload_n 0, 1) := by decide +kernel
theorem dX5_layMilk_30 : decode cX5_layMilk 30 = .ok (.iload_n 1, 1) := by decide +kernel
theorem dX5_layMilk_31 : decode cX5_layMilk 31 = .ok (.iconst 1, 1) := by decide +kernel
theorem dX5_layMilk_32 : decode cX5_layMilk 32 = .ok (.isub, 1) := by decide +kernel
theorem dX5_layMilk_33 : decode cX5_layMilk 33 = .ok (.iload_n 3, 1) := by decide +kernel
theorem dX5_layMilk_34 : decode cX5_layMilk 34 = .ok (.isub, 1) := by decide +kernel
theorem dX5_layMilk_35 : decode cX5_layMilk 35 = .ok (.invokevirtual 58, 3) := by decide +kernel
theorem dX5_layMilk_38 : decode cX5_layMilk 38 = .ok (.iinc 3 (-1), 3) := by decide +kernel
theorem dX5_layMilk_41 : decode cX5_layMilk 41 = .ok (.goto (-21), 3) := by decide +kernel
theorem dX5_layMilk_44 : decode cX5_layMilk 44 = .ok (.return_, 1) := by decide +kernel
theorem dX5_layDeal_0 : decode cX5_layDeal 0 = .ok (.iconst 0, 1) := by decide +kernel
theorem dX5_layDeal_1 : decode cX5_layDeal 1 = .ok (.istore_n 3, 1) := by decide +kernel
theorem dX5_layDeal_2 : decode cX5_layDeal 2 = .ok (.iload_n 3, 1) := by decide +kernel
theorem dX5_layDeal_3 : decode cX5_layDeal 3 = .ok (.iload_n 1, 1) := by decide +kernel
theorem dX5_layDeal_4 : decode cX5_layDeal 4 = .ok (.if_icmp .ge 39, 3) := by decide +kernel
theorem dX5_layDeal_7 : decode cX5_layDeal 7 = .ok (.iload_n 2, 1) := by decide +kernel
theorem dX5_layDeal_8 : decode cX5_layDeal 8 = .ok (.iconst 1, 1) := by decide +kernel
theorem dX5_layDeal_9 : decode cX5_layDeal 9 = .ok (.isub, 1) := by decide +kernel
theorem dX5_layDeal_10 : decode cX5_layDeal 10 = .ok (.istore 4, 2) := by decide +kernel
theorem dX5_layDeal_12 : decode cX5_layDeal 12 = .ok (.iload 4, 2) := by decide +kernel
theorem dX5_layDeal_14 : decode cX5_layDeal 14 = .ok (.ifCond .lt 23, 3) := by decide +kernel
theorem dX5_layDeal_17 : decode cX5_layDeal 17 = .ok (.iload 4, 2) := by decide +kernel
theorem dX5_layDeal_19 : decode cX5_layDeal 19 = .ok (.iload_n 1, 1) := by decide +kernel
theorem dX5_layDeal_20 : decode cX5_layDeal 20 = .ok (.irem, 1) := by decide +kernel
theorem dX5_layDeal_21 : decode cX5_layDeal 21 = .ok (.iload_n 3, 1) := by decide +kernel
theorem dX5_layDeal_22 : decode cX5_layDeal 22 = .ok (.if_icmp .ne 9, 3) := by decide +kernel
theorem dX5_layDeal_25 : decode cX5_layDeal 25 = .ok (.aload_n 0, 1) := by decide +kernel
theorem dX5_layDeal_26 : decode cX5_layDeal 26 = .ok (.iload 4, 2) := by decide +kernel
theorem dX5_layDeal_28 : decode cX5_layDeal 28 = .ok (.invokevirtual 58, 3) := by decide +kernel
theorem dX5_layDeal_31 : decode cX5_layDeal 31 = .ok (.iinc 4 (-1), 3) := by decide +kernel
theorem dX5_layDeal_34 : decode cX5_layDeal 34 = .ok (.goto (-22), 3) := by decide +kernel
theorem dX5_layDeal_37 : decode cX5_layDeal 37 = .ok (.iinc 3 1, 3) := by decide +kernel
theorem dX5_layDeal_40 : decode cX5_layDeal 40 = .ok (.goto (-38), 3) := by decide +kernel
theorem dX5_layDeal_43 : decode cX5_layDeal 43 = .ok (.return_, 1) := by decide +kernel
theorem dX5_layBack_0 : decode cX5_layBack 0 = .ok (.iload_n 1, 1) := by decide +kernel
theorem dX5_layBack_1 : decode cX5_layBack 1 = .ok (.iconst 1, 1) := by decide +kernel
theorem dX5_layBack_2 : decode cX5_layBack 2 = .ok (.isub, 1) := by decide +kernel
theorem dX5_layBack_3 : decode cX5_layBack 3 = .ok (.istore_n 3, 1) := by decide +kernel
theorem dX5_layBack_4 : decode cX5_layBack 4 = .ok (.iload_n 3, 1) := by decide +kernel
theorem dX5_layBack_5 : decode cX5_layBack 5 = .ok (.ifCond .lt 14, 3) := by decide +kernel
theorem dX5_layBack_8 : decode cX5_layBack 8 = .ok (.aload_n 0, 1) := by decide +kernel
theorem dX5_layBack_9 : decode cX5_layBack 9 = .ok (.iload_n 3, 1) := by decide +kernel
theorem dX5_layBack_10 : decode cX5_layBack 10 = .ok (.invokevirtual 58, 3) := by decide +kernel
theorem dX5_layBack_13 : decode cX5_layBack 13 = .ok (.iinc 3 (-1), 3) := by decide +kernel
theorem dX5_layBack_16 : decode cX5_layBack 16 = .ok (.goto (-12), 3) := by decide +kernel
theorem dX5_layBack_19 : decode cX5_layBack 19 = .ok (.aload_n 0, 1) := by decide +kernel
theorem dX5_layBack_20 : decode cX5_layBack 20 = .ok (.iload_n 1, 1) := by decide +kernel
theorem dX5_layBack_21 : decode cX5_layBack 21 = .ok (.iload_n 2, 1) := by decide +kernel
theorem dX5_layBack_22 : decode cX5_layBack 22 = .ok (.invokevirtual 20, 3) := by decide +kernel
theorem dX5_layBack_25 : decode cX5_layBack 25 = .ok (.return_, 1) := by decide +kernel
theorem dX5_layOver_0 : decode cX5_layOver 0 = .ok (.iload_n 1, 1) := by decide +kernel
theorem dX5_layOver_1 : decode cX5_layOver 1 = .ok (.iconst 1, 1) := by decide +kernel
theorem dX5_layOver_2 : decode cX5_layOver 2 = .ok (.isub, 1) := by decide +kernel
theorem dX5_layOver_3 : decode cX5_layOver 3 = .ok (.istore_n 3, 1) := by decide +kernel
theorem dX5_layOver_4 : decode cX5_layOver 4 = .ok (.iload_n 3, 1) := by decide +kernel
theorem dX5_layOver_5 : decode cX5_layOver 5 = .ok (.ifCond .lt 14, 3) := by decide +kernel
theorem dX5_layOver_8 : decode cX5_layOver 8 = .ok (.aload_n 0, 1) := by decide +kernel
theorem dX5_layOver_9 : decode cX5_layOver 9 = .ok (.iload_n 3, 1) := by decide +kernel
theorem dX5_layOver_10 : decode cX5_layOver 10 = .ok (.invokevirtual 62, 3) := by decide +kernel
theorem dX5_layOver_13 : decode cX5_layOver 13 = .ok (.iinc 3 (-1), 3) := by decide +kernel
theorem dX5_layOver_16 : decode cX5_layOver 16 = .ok (.goto (-12), 3) := by decide +kernel
theorem dX5_layOver_19 : decode cX5_layOver 19 = .ok (.aload_n 0, 1) := by decide +kernel
theorem dX5_layOver_20 : decode cX5_layOver 20 = .ok (.iload_n 1, 1) := by decide +kernel
theorem dX5_layOver_21 : decode cX5_layOver 21 = .ok (.iload_n 2, 1) := by decide +kernel
theorem dX5_layOver_22 : decode cX5_layOver 22 = .ok (.invokevirtual 20, 3) := by decide +kernel
theorem dX5_layOver_25 : decode cX5_layOver 25 = .ok (.return_, 1) := by decide +kernel
theorem dX5_layRiffle_0 : decode cX5_layRiffle 0 = .ok (.iconst 0, 1) := by decide +kernel
theorem dX5_layRiffle_1 : decode cX5_layRiffle 1 = .ok (.istore_n 3, 1) := by decide +kernel
theorem dX5_layRiffle_2 : decode cX5_layRiffle 2 = .ok (.iload_n 2, 1) := by decide +kernel
theorem dX5_layRiffle_3 : decode cX5_layRiffle 3 = .ok (.iload_n 1, 1) := by decide +kernel
theorem dX5_layRiffle_4 : decode cX5_layRiffle 4 = .ok (.invokestatic 65, 3) := by decide +kernel
theorem dX5_layRiffle_7 : decode cX5_layRiffle 7 = .ok (.isub, 1) := by decide +kernel
theorem dX5_layRiffle_8 : decode cX5_layRiffle 8 = .ok (.istore 4, 2) := by decide +kernel
theorem dX5_layRiffle_10 : decode cX5_layRiffle 10 = .ok (.iconst 0, 1) := by decide +kernel
theorem dX5_layRiffle_11 : decode cX5_layRiffle 11 = .ok (.istore 5, 2) := by decide +kernel
theorem dX5_layRiffle_13 : decode cX5_layRiffle 13 = .ok (.iload 5, 2) := by decide +kernel
theorem dX5_layRiffle_15 : decode cX5_layRiffle 15 = .ok (.iload_n 2, 1) := by decide +kernel
theorem dX5_layRiffle_16 : decode cX5_layRiffle 16 = .ok (.if_icmp .ge 38, 3) := by decide +kernel
theorem dX5_layRiffle_19 : decode cX5_layRiffle 19 = .ok (.iload_n 1, 1) := by decide +kernel
theorem dX5_layRiffle_20 : decode cX5_layRiffle 20 = .ok (.iload 5, 2) := by decide +kernel
theorem dX5_layRiffle_22 : decode cX5_layRiffle 22 = .ok (.ishr, 1) := by decide +kernel
theorem dX5_layRiffle_23 : decode cX5_layRiffle 23 = .ok (.iconst 1, 1) := by decide +kernel
theorem dX5_layRiffle_24 : decode cX5_layRiffle 24 = .ok (.iand, 1) := by decide +kernel
theorem dX5_layRiffle_25 : decode cX5_layRiffle 25 = .ok (.ifCond .ne 14, 3) := by decide +kernel
theorem dX5_layRiffle_28 : decode cX5_layRiffle 28 = .ok (.aload_n 0, 1) := by decide +kernel
theorem dX5_layRiffle_29 : decode cX5_layRiffle 29 = .ok (.iload_n 3, 1) := by decide +kernel
theorem dX5_layRiffle_30 : decode cX5_layRiffle 30 = .ok (.invokevirtual 58, 3) := by decide +kernel
theorem dX5_layRiffle_33 : decode cX5_layRiffle 33 = .ok (.iinc 3 1, 3) := by decide +kernel
theorem dX5_layRiffle_36 : decode cX5_layRiffle 36 = .ok (.goto 12, 3) := by decide +kernel
theorem dX5_layRiffle_39 : decode cX5_layRiffle 39 = .ok (.aload_n 0, 1) := by decide +kernel
theorem dX5_layRiffle_40 : decode cX5_layRiffle 40 = .ok (.iload 4, 2) := by decide +kernel
theorem dX5_layRiffle_42 : decode cX5_layRiffle 42 = .ok (.invokevirtual 58, 3) := by decide +kernel
theorem dX5_layRiffle_45 : decode cX5_layRiffle 45 = .ok (.iinc 4 1, 3) := by decide +kernel
theorem dX5_layRiffle_48 : decode cX5_layRiffle 48 = .ok (.iinc 5 1, 3) := by decide +kernel
theorem dX5_layRiffle_51 : decode cX5_layRiffle 51 = .ok (.goto (-38), 3) := by decide +kernel
theorem dX5_layRiffle_54 : decode cX5_layRiffle 54 = .ok (.return_, 1) := by decide +kernel
theorem dX5_layPackets_0 : decode cX5_layPackets 0 = .ok (.iload_n 2, 1) := by decide +kernel
theorem dX5_layPackets_1 : decode cX5_layPackets 1 = .ok (.istore_n 3, 1) := by decide +kernel
theorem dX5_layPackets_2 : decode cX5_layPackets 2 = .ok (.iload_n 2, 1) := by decide +kernel
theorem dX5_layPackets_3 : decode cX5_layPackets 3 = .ok (.iconst 2, 1) := by decide +kernel
theorem dX5_layPackets_4 : decode cX5_layPackets 4 = .ok (.isub, 1) := by decide +kernel
theorem dX5_layPackets_5 : decode cX5_layPackets 5 = .ok (.istore 4, 2) := by decide +kernel
theorem dX5_layPackets_7 : decode cX5_layPackets 7 = .ok (.iload 4, 2) := by decide +kernel
theorem dX5_layPackets_9 : decode cX5_layPackets 9 = .ok (.ifCond .lt 33, 3) := by decide +kernel
theorem dX5_layPackets_12 : decode cX5_layPackets 12 = .ok (.iload_n 1, 1) := by decide +kernel
theorem dX5_layPackets_13 : decode cX5_layPackets 13 = .ok (.iload 4, 2) := by decide +kernel
theorem dX5_layPackets_15 : decode cX5_layPackets 15 = .ok (.ishr, 1) := by decide +kernel
theorem dX5_layPackets_16 : decode cX5_layPackets 16 = .ok (.iconst 1, 1) := by decide +kernel
theorem dX5_layPackets_17 : decode cX5_layPackets 17 = .ok (.iand, 1) := by decide +kernel
theorem dX5_layPackets_18 : decode cX5_layPackets 18 = .ok (.iconst 1, 1) := by decide +kernel
theorem dX5_layPackets_19 : decode cX5_layPackets 19 = .ok (.if_icmp .ne 17, 3) := by decide +kernel
theorem dX5_layPackets_22 : decode cX5_layPackets 22 = .ok (.aload_n 0, 1) := by decide +kernel
theorem dX5_layPackets_23 : decode cX5_layPackets 23 = .ok (.iload 4, 2) := by decide +kernel
theorem dX5_layPackets_25 : decode cX5_layPackets 25 = .ok (.iconst 1, 1) := by decide +kernel
theorem dX5_layPackets_26 : decode cX5_layPackets 26 = .ok (.iadd, 1) := by decide +kernel
theorem dX5_layPackets_27 : decode cX5_layPackets 27 = .ok (.iload_n 3, 1) := by decide +kernel
theorem dX5_layPackets_28 : decode cX5_layPackets 28 = .ok (.invokevirtual 20, 3) := by decide +kernel
theorem dX5_layPackets_31 : decode cX5_layPackets 31 = .ok (.iload 4, 2) := by decide +kernel
theorem dX5_layPackets_33 : decode cX5_layPackets 33 = .ok (.iconst 1, 1) := by decide +kernel
theorem dX5_layPackets_34 : decode cX5_layPackets 34 = .ok (.iadd, 1) := by decide +kernel
theorem dX5_layPackets_35 : decode cX5_layPackets 35 = .ok (.istore_n 3, 1) := by decide +kernel
theorem dX5_layPackets_36 : decode cX5_layPackets 36 = .ok (.iinc 4 (-1), 3) := by decide +kernel
theorem dX5_layPackets_39 : decode cX5_layPackets 39 = .ok (.goto (-32), 3) := by decide +kernel
theorem dX5_layPackets_42 : decode cX5_layPackets 42 = .ok (.aload_n 0, 1) := by decide +kernel
theorem dX5_layPackets_43 : decode cX5_layPackets 43 = .ok (.iconst 0, 1) := by decide +kernel
theorem dX5_layPackets_44 : decode cX5_layPackets 44 = .ok (.iload_n 3, 1) := by decide +kernel
theorem dX5_layPackets_45 : decode cX5_layPackets 45 = .ok (.invokevirtual 20, 3) := by decide +kernel
theorem dX5_layPackets_48 : decode cX5_layPackets 48 = .ok (.return_, 1) := by decide +kernel
theorem dX6_init_0 : decode cX6_init 0 = .ok (.aload_n 0, 1) := by decide +kernel
theorem dX6_init_1 : decode cX6_init 1 = .ok (.invokespecial 1, 3) := by decide +kernel
theorem dX6_init_4 : decode cX6_init 4 = .ok (.aload_n 0, 1) := by decide +kernel
theorem dX6_init_5 : decode cX6_init 5 = .ok (.iconst 4, 1) := by decide +kernel
theorem dX6_init_6 : decode cX6_init 6 = .ok (.anewarray 9, 3) := by decide +kernel
theorem dX6_init_9 : decode cX6_init 9 = .ok (.putfield 11, 3) := by decide +kernel
theorem dX6_init_12 : decode cX6_init 12 = .ok (.aload_n 0, 1) := by decide +kernel
theorem dX6_init_13 : decode cX6_init 13 = .ok (.iconst 4, 1) := by decide +kernel
theorem dX6_init_14 : decode cX6_init 14 = .ok (.anewarray 15, 3) := by decide +kernel
theorem dX6_init_17 : decode cX6_init 17 = .ok (.putfield 17, 3) := by decide +kernel
theorem dX6_init_20 : decode cX6_init 20 = .ok (.aload_n 0, 1) := by decide +kernel
theorem dX6_init_21 : decode cX6_init 21 = .ok (.new 21, 3) := by decide +kernel
theorem dX6_init_24 : decode cX6_init 24 = .ok (.dup, 1) := by decide +kernel
theorem dX6_init_25 : decode cX6_init 25 = .ok (.invokespecial 23, 3) := by decide +kernel
theorem dX6_init_28 : decode cX6_init 28 = .ok (.putfield 24, 3) := by decide +kernel
theorem dX6_init_31 : decode cX6_init 31 = .ok (.aload_n 0, 1) := by decide +kernel
theorem dX6_init_32 : decode cX6_init 32 = .ok (.new 21, 3) := by decide +kernel
theorem dX6_init_35 : decode cX6_init 35 = .ok (.dup, 1) := by decide +kernel
theorem dX6_init_36 : decode cX6_init 36 = .ok (.invokespecial 23, 3) := by decide +kernel
theorem dX6_init_39 : decode cX6_init 39 = .ok (.putfield 28, 3) := by decide +kernel
theorem dX6_init_42 : decode cX6_init 42 = .ok (.aload_n 0, 1) := by decide +kernel
theorem dX6_init_43 : decode cX6_init 43 = .ok (.new 21, 3) := by decide +kernel
theorem dX6_init_46 : decode cX6_init 46 = .ok (.dup, 1) := by decide +kernel
theorem dX6_init_47 : decode cX6_init 47 = .ok (.invokespecial 23, 3) := by decide +kernel
theorem dX6_init_50 : decode cX6_init 50 = .ok (.putfield 31, 3) := by decide +kernel
theorem dX6_init_53 : decode cX6_init 53 = .ok (.iconst 0, 1) := by decide +kernel
theorem dX6_init_54 : decode cX6_init 54 = .ok (.istore_n 1, 1) := by decide +kernel
theorem dX6_init_55 : decode cX6_init 55 = .ok (.iload_n 1, 1) := by decide +kernel
theorem dX6_init_56 : decode cX6_init 56 = .ok (.iconst 4, 1) := by decide +kernel
theorem dX6_init_57 : decode cX6_init 57 = .ok (.if_icmp .ge 22, 3) := by decide +kernel
theorem dX6_init_60 : decode cX6_init 60 = .ok (.aload_n 0, 1) := by decide +kernel
theorem dX6_init_61 : decode cX6_init 61 = .ok (.getfield 11, 3) := by decide +kernel
theorem dX6_init_64 : decode cX6_init 64 = .ok (.iload_n 1, 1) := by decide +kernel
theorem dX6_init_65 : decode cX6_init 65 = .ok (.new 9, 3) := by decide +kernel
theorem dX6_init_68 : decode cX6_init 68 = .ok (.dup, 1) := by decide +kernel
theorem dX6_init_69 : decode cX6_init 69 = .ok (.invokespecial 34, 3) := by decide +kernel
theorem dX6_init_72 : decode cX6_init 72 = .ok (.aastore, 1) := by decide +kernel
theorem dX6_init_73 : decode cX6_init 73 = .ok (.iinc 1 1, 3) := by decide +kernel
theorem dX6_init_76 : decode cX6_init 76 = .ok (.goto (-21), 3) := by decide +kernel
theorem dX6_init_79 : decode cX6_init 79 = .ok (.iconst 0, 1) := by decide +kernel
theorem dX6_init_80 : decode cX6_init 80 = .ok (.istore_n 1, 1) := by decide +kernel
theorem dX6_init_81 : decode cX6_init 81 = .ok (.iload_n 1, 1) := by decide +kernel
theorem dX6_init_82 : decode cX6_init 82 = .ok (.iconst 4, 1) := by decide +kernel
theorem dX6_init_83 : decode cX6_init 83 = .ok (.if_icmp .ge 22, 3) := by decide +kernel
theorem dX6_init_86 : decode cX6_init 86 = .ok (.aload_n 0, 1) := by decide +kernel
theorem dX6_init_87 : decode cX6_init 87 = .ok (.getfield 17, 3) := by decide +kernel
theorem dX6_init_90 : decode cX6_init 90 = .ok (.iload_n 1, 1) := by decide +kernel
theorem dX6_init_91 : decode cX6_init 91 = .ok (.new 15, 3) := by decide +kernel
theorem dX6_init_94 : decode cX6_init 94 = .ok (.dup, 1) := by decide +kernel
theorem dX6_init_95 : decode cX6_init 95 = .ok (.invokespecial 35, 3) := by decide +kernel
theorem dX6_init_98 : decode cX6_init 98 = .ok (.aastore, 1) := by decide +kernel
theorem dX6_init_99 : decode cX6_init 99 = .ok (.iinc 1 1, 3) := by decide +kernel
theorem dX6_init_102 : decode cX6_init 102 = .ok (.goto (-21), 3) := by decide +kernel
theorem dX6_init_105 : decode cX6_init 105 = .ok (.return_, 1) := by decide +kernel
theorem dX6_deck_0 : decode cX6_deck 0 = .ok (.iload_n 1, 1) := by decide +kernel
theorem dX6_deck_1 : decode cX6_deck 1 = .ok (.invokestatic 36, 3) := by decide +kernel
theorem dX6_deck_4 : decode cX6_deck 4 = .ok (.ifCond .ne 13, 3) := by decide +kernel
theorem dX6_deck_7 : decode cX6_deck 7 = .ok (.new 40, 3) := by decide +kernel
theorem dX6_deck_10 : decode cX6_deck 10 = .ok (.dup, 1) := by decide +kernel
theorem dX6_deck_11 : decode cX6_deck 11 = .ok (.ldc 42, 2) := by decide +kernel
theorem dX6_deck_13 : decode cX6_deck 13 = .ok (.invokespecial 44, 3) := by decide +kernel
theorem dX6_deck_16 : decode cX6_deck 16 = .ok (.athrow, 1) := by decide +kernel
theorem dX6_deck_17 : decode cX6_deck 17 = .ok (.aload_n 0, 1) := by decide +kernel
theorem dX6_deck_18 : decode cX6_deck 18 = .ok (.getfield 47, 3) := by decide +kernel
theorem dX6_deck_21 : decode cX6_deck 21 = .ok (.iconst 4, 1) := by decide +kernel
theorem dX6_deck_22 : decode cX6_deck 22 = .ok (.if_icmp .lt 13, 3) := by decide +kernel
theorem dX6_deck_25 : decode cX6_deck 25 = .ok (.new 51, 3) := by decide +kernel
theorem dX6_deck_28 : decode cX6_deck 28 = .ok (.dup, 1) := by decide +kernel
theorem dX6_deck_29 : decode cX6_deck 29 = .ok (.ldc 53, 2) := by decide +kernel
theorem dX6_deck_31 : decode cX6_deck 31 = .ok (.invokespecial 55, 3) := by decide +kernel
theorem dX6_deck_34 : decode cX6_deck 34 = .ok (.athrow, 1) := by decide +kernel
theorem dX6_deck_35 : decode cX6_deck 35 = .ok (.aload_n 0, 1) := by decide +kernel
theorem dX6_deck_36 : decode cX6_deck 36 = .ok (.getfield 11, 3) := by decide +kernel
theorem dX6_deck_39 : decode cX6_deck 39 = .ok (.aload_n 0, 1) := by decide +kernel
theorem dX6_deck_40 : decode cX6_deck 40 = .ok (.getfield 47, 3) := by decide +kernel
theorem dX6_deck_43 : decode cX6_deck 43 = .ok (.aaload, 1) := by decide +kernel
theorem dX6_deck_44 : decode cX6_deck 44 = .ok (.iload_n 1, 1) := by decide +kernel
theorem dX6_deck_45 : decode cX6_deck 45 = .ok (.invokevirtual 56, 3) := by decide +kernel
theorem dX6_deck_48 : decode cX6_deck 48 = .ok (.aload_n 0, 1) := by decide +kernel
theorem dX6_deck_49 : decode cX6_deck 49 = .ok (.dup, 1) := by decide +kernel
theorem dX6_deck_50 : decode cX6_deck 50 = .ok (.getfield 47, 3) := by decide +kernel
theorem dX6_deck_53 : decode cX6_deck 53 = .ok (.iconst 1, 1) := by decide +kernel
theorem dX6_deck_54 : decode cX6_deck 54 = .ok (.iadd, 1) := by decide +kernel
theorem dX6_deck_55 : decode cX6_deck 55 = .ok (.putfield 47, 3) := by decide +kernel
theorem dX6_deck_58 : decode cX6_deck 58 = .ok (.aload_n 0, 1) := by decide +kernel
theorem dX6_deck_59 : decode cX6_deck 59 = .ok (.getfield 47, 3) := by decide +kernel
theorem dX6_deck_62 : decode cX6_deck 62 = .ok (.iconst 1, 1) := by decide +kernel
theorem dX6_deck_63 : decode cX6_deck 63 = .ok (.isub, 1) := by decide +kernel
theorem dX6_deck_64 : decode cX6_deck 64 = .ok (.ireturn, 1) := by decide +kernel
theorem dX6_shuffle_0 : decode cX6_shuffle 0 = .ok (.aload_n 0, 1) := by decide +kernel
theorem dX6_shuffle_1 : decode cX6_shuffle 1 = .ok (.iload_n 1, 1) := by decide +kernel
theorem dX6_shuffle_2 : decode cX6_shuffle 2 = .ok (.invokevirtual 60, 3) := by decide +kernel
theorem dX6_shuffle_5 : decode cX6_shuffle 5 = .ok (.astore 5, 2) := by decide +kernel
theorem dX6_shuffle_7 : decode cX6_shuffle 7 = .ok (.aload_n 0, 1) := by decide +kernel
theorem dX6_shuffle_8 : decode cX6_shuffle 8 = .ok (.getfield 24, 3) := by decide +kernel
theorem dX6_shuffle_11 : decode cX6_shuffle 11 = .ok (.iload_n 2, 1) := by decide +kernel
theorem dX6_shuffle_12 : decode cX6_shuffle 12 = .ok (.iload_n 3, 1) := by decide +kernel
theorem dX6_shuffle_13 : decode cX6_shuffle 13 = .ok (.aload 5, 2) := by decide +kernel
theorem dX6_shuffle_15 : decode cX6_shuffle 15 = .ok (.invokevirtual 64, 3) := by decide +kernel
theorem dX6_shuffle_18 : decode cX6_shuffle 18 = .ok (.invokevirtual 68, 3) := by decide +kernel
theorem dX6_shuffle_21 : decode cX6_shuffle 21 = .ok (.invokestatic 72, 3) := by decide +kernel
theorem dX6_shuffle_24 : decode cX6_shuffle 24 = .ok (.ifCond .ne 13, 3) := by decide +kernel
theorem dX6_shuffle_27 : decode cX6_shuffle 27 = .ok (.new 40, 3) := by decide +kernel
theorem dX6_shuffle_30 : decode cX6_shuffle 30 = .ok (.dup, 1) := by decide +kernel
theorem dX6_shuffle_31 : decode cX6_shuffle 31 = .ok (.ldc 78, 2) := by decide +kernel
theorem dX6_shuffle_33 : decode cX6_shuffle 33 = .ok (.invokespecial 44, 3) := by decide +kernel
theorem dX6_shuffle_36 : decode cX6_shuffle 36 = .ok (.athrow, 1) := by decide +kernel
theorem dX6_shuffle_37 : decode cX6_shuffle 37 = .ok (.iload 4, 2) := by decide +kernel
theorem dX6_shuffle_39 : decode cX6_shuffle 39 = .ok (.invokestatic 80, 3) := by decide +kernel
theorem dX6_shuffle_42 : decode cX6_shuffle 42 = .ok (.aload 5, 2) := by decide +kernel
theorem dX6_shuffle_44 : decode cX6_shuffle 44 = .ok (.aload_n 0, 1) := by decide +kernel
theorem dX6_shuffle_45 : decode cX6_shuffle 45 = .ok (.getfield 24, 3) := by decide +kernel
theorem dX6_shuffle_48 : decode cX6_shuffle 48 = .ok (.iload 4, 2) := by decide +kernel
theorem dX6_shuffle_50 : decode cX6_shuffle 50 = .ok (.invokevirtual 83, 3) := by decide +kernel
theorem dX6_shuffle_53 : decode cX6_shuffle 53 = .ok (.aload 5, 2) := by decide +kernel
theorem dX6_shuffle_55 : decode cX6_shuffle 55 = .ok (.invokevirtual 64, 3) := by decide +kernel
theorem dX6_shuffle_58 : decode cX6_shuffle 58 = .ok (.iconst 0, 1) := by decide +kernel
theorem dX6_shuffle_59 : decode cX6_shuffle 59 = .ok (.invokevirtual 87, 3) := by decide +kernel
theorem dX6_shuffle_62 : decode cX6_shuffle 62 = .ok (.ireturn, 1) := by decide +kernel
theorem dX6_undo_0 : decode cX6_undo 0 = .ok (.aload_n 0, 1) := by decide +kernel
theorem dX6_undo_1 : decode cX6_undo 1 = .ok (.iload_n 1, 1) := by decide +kernel
theorem dX6_undo_2 : decode cX6_undo 2 = .ok (.invokevirtual 60, 3) := by decide +kernel
theorem dX6_undo_5 : decode cX6_undo 5 = .ok (.astore_n 2, 1) := by decide +kernel
theorem dX6_undo_6 : decode cX6_undo 6 = .ok (.aload_n 2, 1) := by decide +kernel
theorem dX6_undo_7 : decode cX6_undo 7 = .ok (.invokevirtual 91, 3) := by decide +kernel
theorem dX6_undo_10 : decode cX6_undo 10 = .ok (.ifCond .ne 5, 3) := by decide +kernel
theorem dX6_undo_13 : decode cX6_undo 13 = .ok (.iconst (-1), 1) := by decide +kernel
theorem dX6_undo_14 : decode cX6_undo 14 = .ok (.ireturn, 1) := by decide +kernel
theorem dX6_undo_15 : decode cX6_undo 15 = .ok (.aload_n 0, 1) := by decide +kernel
theorem dX6_undo_16 : decode cX6_undo 16 = .ok (.dup, 1) := by decide +kernel
theorem dX6_undo_17 : decode cX6_undo 17 = .ok (.getfield 95, 3) := by decide +kernel
theorem dX6_undo_20 : decode cX6_undo 20 = .ok (.iconst 1, 1) := by decide +kernel
theorem dX6_undo_21 : decode cX6_undo 21 = .ok (.iadd, 1) := by decide +kernel
theorem dX6_undo_22 : decode cX6_undo 22 = .ok (.putfield 95, 3) := by decide +kernel
theorem dX6_undo_25 : decode cX6_undo 25 = .ok (.aload_n 2, 1) := by decide +kernel
theorem dX6_undo_26 : decode cX6_undo 26 = .ok (.invokevirtual 64, 3) := by decide +kernel
theorem dX6_undo_29 : decode cX6_undo 29 = .ok (.iconst 0, 1) := by decide +kernel
theorem dX6_undo_30 : decode cX6_undo 30 = .ok (.invokevirtual 87, 3) := by decide +kernel
theorem dX6_undo_33 : decode cX6_undo 33 = .ok (.ireturn, 1) := by decide +kernel
theorem dX6_turn_0 : decode cX6_turn 0 = .ok (.aload_n 0, 1) := by decide +kernel
theorem dX6_turn_1 : decode cX6_turn 1 = .ok (.iload_n 1, 1) := by decide +kernel
theorem dX6_turn_2 : decode cX6_turn 2 = .ok (.invokevirtual 60, 3) := by decide +kernel
theorem dX6_turn_5 : decode cX6_turn 5 = .ok (.invokevirtual 64, 3) := by decide +kernel
theorem dX6_turn_8 : decode cX6_turn 8 = .ok (.astore_n 3, 1) := by decide +kernel
theorem dX6_turn_9 : decode cX6_turn 9 = .ok (.aload_n 3, 1) := by decide +kernel
theorem dX6_turn_10 : decode cX6_turn 10 = .ok (.iload_n 2, 1) := by decide +kernel
theorem dX6_turn_11 : decode cX6_turn 11 = .ok (.invokestatic 98, 3) := by decide +kernel
theorem dX6_turn_14 : decode cX6_turn 14 = .ok (.aload_n 3, 1) := by decide +kernel
theorem dX6_turn_15 : decode cX6_turn 15 = .ok (.iload_n 2, 1) := by decide +kernel
theorem dX6_turn_16 : decode cX6_turn 16 = .ok (.invokevirtual 101, 3) := by decide +kernel
theorem dX6_turn_19 : decode cX6_turn 19 = .ok (.aload_n 3, 1) := by decide +kernel
theorem dX6_turn_20 : decode cX6_turn 20 = .ok (.iload_n 2, 1) := by decide +kernel
theorem dX6_turn_21 : decode cX6_turn 21 = .ok (.invokevirtual 104, 3) := by decide +kernel
theorem dX6_turn_24 : decode cX6_turn 24 = .ok (.ireturn, 1) := by decide +kernel
theorem dX6_sequence_0 : decode cX6_sequence 0 = .ok (.aload_n 0, 1) := by decide +kernel
theorem dX6_sequence_1 : decode cX6_sequence 1 = .ok (.getfield 107, 3) := by decide +kernel
theorem dX6_sequence_4 : decode cX6_sequence 4 = .ok (.iconst 4, 1) := by decide +kernel
theorem dX6_sequence_5 : decode cX6_sequence 5 = .ok (.if_icmp .lt 13, 3) := by decide +kernel
theorem dX6_sequence_8 : decode cX6_sequence 8 = .ok (.new 51, 3) := by decide +kernel
theorem dX6_sequence_11 : decode cX6_sequence 11 = .ok (.dup, 1) := by decide +kernel
theorem dX6_sequence_12 : decode cX6_sequence 12 = .ok (.ldc 110, 2) := by decide +kernel
theorem dX6_sequence_14 : decode cX6_sequence 14 = .ok (.invokespecial 55, 3) := by decide +kernel
theorem dX6_sequence_17 : decode cX6_sequence 17 = .ok (.athrow, 1) := by decide +kernel
theorem dX6_sequence_18 : decode cX6_sequence 18 = .ok (.aload_n 0, 1) := by decide +kernel
theorem dX6_sequence_19 : decode cX6_sequence 19 = .ok (.dup, 1) := by decide +kernel
theorem dX6_sequence_20 : decode cX6_sequence 20 = .ok (.getfield 107, 3) := by decide +kernel
theorem dX6_sequence_23 : decode cX6_sequence 23 = .ok (.iconst 1, 1) := by decide +kernel
theorem dX6_sequence_24 : decode cX6_sequence 24 = .ok (.iadd, 1) := by decide +kernel
theorem dX6_sequence_25 : decode cX6_sequence 25 = .ok (.putfield 107, 3) := by decide +kernel
theorem dX6_sequence_28 : decode cX6_sequence 28 = .ok (.aload_n 0, 1) := by decide +kernel
theorem dX6_sequence_29 : decode cX6_sequence 29 = .ok (.getfield 107, 3) := by decide +kernel
theorem dX6_sequence_32 : decode cX6_sequence 32 = .ok (.iconst 1, 1) := by decide +kernel
theorem dX6_sequence_33 : decode cX6_sequence 33 = .ok (.isub, 1) := by decide +kernel
theorem dX6_sequence_34 : decode cX6_sequence 34 = .ok (.ireturn, 1) := by decide +kernel
theorem dX6_step_0 : decode cX6_step 0 = .ok (.aload_n 0, 1) := by decide +kernel
theorem dX6_step_1 : decode cX6_step 1 = .ok (.iload_n 1, 1) := by decide +kernel
theorem dX6_step_2 : decode cX6_step 2 = .ok (.invokevirtual 112, 3) := by decide +kernel
theorem dX6_step_5 : decode cX6_step 5 = .ok (.astore 4, 2) := by decide +kernel
theorem dX6_step_7 : decode cX6_step 7 = .ok (.iload_n 2, 1) := by decide +kernel
theorem dX6_step_8 : decode cX6_step 8 = .ok (.iconst 0, 1) := by decide +kernel
theorem dX6_step_9 : decode cX6_step 9 = .ok (.bipush 9, 2) := by decide +kernel
theorem dX6_step_11 : decode cX6_step 11 = .ok (.invokestatic 116, 3) := by decide +kernel
theorem dX6_step_14 : decode cX6_step 14 = .ok (.ifCond .eq 7, 3) := by decide +kernel
theorem dX6_step_17 : decode cX6_step 17 = .ok (.iload_n 3, 1) := by decide +kernel
theorem dX6_step_18 : decode cX6_step 18 = .ok (.ifCond .ge 13, 3) := by decide +kernel
theorem dX6_step_21 : decode cX6_step 21 = .ok (.new 40, 3) := by decide +kernel
theorem dX6_step_24 : decode cX6_step 24 = .ok (.dup, 1) := by decide +kernel
theorem dX6_step_25 : decode cX6_step 25 = .ok (.ldc 120, 2) := by decide +kernel
theorem dX6_step_27 : decode cX6_step 27 = .ok (.invokespecial 44, 3) := by decide +kernel
theorem dX6_step_30 : decode cX6_step 30 = .ok (.athrow, 1) := by decide +kernel
theorem dX6_step_31 : decode cX6_step 31 = .ok (.aload 4, 2) := by decide +kernel
theorem dX6_step_33 : decode cX6_step 33 = .ok (.invokevirtual 122, 3) := by decide +kernel
theorem dX6_step_36 : decode cX6_step 36 = .ok (.bipush 8, 2) := by decide +kernel
theorem dX6_step_38 : decode cX6_step 38 = .ok (.if_icmp .lt 13, 3) := by decide +kernel
theorem dX6_step_41 : decode cX6_step 41 = .ok (.new 51, 3) := by decide +kernel
theorem dX6_step_44 : decode cX6_step 44 = .ok (.dup, 1) := by decide +kernel
theorem dX6_step_45 : decode cX6_step 45 = .ok (.ldc 125, 2) := by decide +kernel
theorem dX6_step_47 : decode cX6_step 47 = .ok (.invokespecial 55, 3) := by decide +kernel
theorem dX6_step_50 : decode cX6_step 50 = .ok (.athrow, 1) := by decide +kernel
theorem dX6_step_51 : decode cX6_step 51 = .ok (.aload 4, 2) := by decide +kernel
theorem dX6_step_53 : decode cX6_step 53 = .ok (.iload_n 2, 1) := by decide +kernel
theorem dX6_step_54 : decode cX6_step 54 = .ok (.iload_n 3, 1) := by decide +kernel
theorem dX6_step_55 : decode cX6_step 55 = .ok (.invokevirtual 127, 3) := by decide +kernel
theorem dX6_step_58 : decode cX6_step 58 = .ok (.aload 4, 2) := by decide +kernel
theorem dX6_step_60 : decode cX6_step 60 = .ok (.invokevirtual 122, 3) := by decide +kernel
theorem dX6_step_63 : decode cX6_step 63 = .ok (.ireturn, 1) := by decide +kernel
theorem dX6_perform_0 : decode cX6_perform 0 = .ok (.aload_n 0, 1) := by decide +kernel
theorem dX6_perform_1 : decode cX6_perform 1 = .ok (.iload_n 1, 1) := by decide +kernel
theorem dX6_perform_2 : decode cX6_perform 2 = .ok (.invokevirtual 60, 3) := by decide +kernel
theorem dX6_perform_5 : decode cX6_perform 5 = .ok (.astore 4, 2) := by decide +kernel
theorem dX6_perform_7 : decode cX6_perform 7 = .ok (.aload_n 0, 1) := by decide +kernel
theorem dX6_perform_8 : decode cX6_perform 8 = .ok (.iload_n 2, 1) := by decide +kernel
theorem dX6_perform_9 : decode cX6_perform 9 = .ok (.invokevirtual 112, 3) := by decide +kernel
theorem dX6_perform_12 : decode cX6_perform 12 = .ok (.astore 5, 2) := by decide +kernel
theorem dX6_perform_14 : decode cX6_perform 14 = .ok (.iload_n 3, 1) := by decide +kernel
theorem dX6_perform_15 : decode cX6_perform 15 = .ok (.invokestatic 80, 3) := by decide +kernel
theorem dX6_perform_18 : decode cX6_perform 18 = .ok (.aload 5, 2) := by decide +kernel
theorem dX6_perform_20 : decode cX6_perform 20 = .ok (.aload_n 0, 1) := by decide +kernel
theorem dX6_perform_21 : decode cX6_perform 21 = .ok (.getfield 24, 3) := by decide +kernel
theorem dX6_perform_24 : decode cX6_perform 24 = .ok (.aload_n 0, 1) := by decide +kernel
theorem dX6_perform_25 : decode cX6_perform 25 = .ok (.getfield 28, 3) := by decide +kernel
theorem dX6_perform_28 : decode cX6_perform 28 = .ok (.aload 4, 2) := by decide +kernel
theorem dX6_perform_30 : decode cX6_perform 30 = .ok (.invokevirtual 64, 3) := by decide +kernel
theorem dX6_perform_33 : decode cX6_perform 33 = .ok (.invokevirtual 68, 3) := by decide +kernel
theorem dX6_perform_36 : decode cX6_perform 36 = .ok (.invokevirtual 131, 3) := by decide +kernel
theorem dX6_perform_39 : decode cX6_perform 39 = .ok (.ifCond .ne 13, 3) := by decide +kernel
theorem dX6_perform_42 : decode cX6_perform 42 = .ok (.new 51, 3) := by decide +kernel
theorem dX6_perform_45 : decode cX6_perform 45 = .ok (.dup, 1) := by decide +kernel
theorem dX6_perform_46 : decode cX6_perform 46 = .ok (.ldc 134, 2) := by decide +kernel
theorem dX6_perform_48 : decode cX6_perform 48 = .ok (.invokespecial 55, 3) := by decide +kernel
theorem dX6_perform_51 : decode cX6_perform 51 = .ok (.athrow, 1) := by decide +kernel
theorem dX6_perform_52 : decode cX6_perform 52 = .ok (.aload 4, 2) := by decide +kernel
theorem dX6_perform_54 : decode cX6_perform 54 = .ok (.aload_n 0, 1) := by decide +kernel
theorem dX6_perform_55 : decode cX6_perform 55 = .ok (.getfield 24, 3) := by decide +kernel
theorem dX6_perform_58 : decode cX6_perform 58 = .ok (.iload_n 3, 1) := by decide +kernel
theorem dX6_perform_59 : decode cX6_perform 59 = .ok (.invokevirtual 83, 3) := by decide +kernel
theorem dX6_perform_62 : decode cX6_perform 62 = .ok (.aload 4, 2) := by decide +kernel
theorem dX6_perform_64 : decode cX6_perform 64 = .ok (.invokevirtual 64, 3) := by decide +kernel
theorem dX6_perform_67 : decode cX6_perform 67 = .ok (.iconst 0, 1) := by decide +kernel
theorem dX6_perform_68 : decode cX6_perform 68 = .ok (.invokevirtual 87, 3) := by decide +kernel
theorem dX6_perform_71 : decode cX6_perform 71 = .ok (.ireturn, 1) := by decide +kernel
theorem dX6_card_0 : decode cX6_card 0 = .ok (.aload_n 0, 1) := by decide +kernel
theorem dX6_card_1 : decode cX6_card 1 = .ok (.iload_n 1, 1) := by decide +kernel
theorem dX6_card_2 : decode cX6_card 2 = .ok (.invokevirtual 60, 3) := by decide +kernel
theorem dX6_card_5 : decode cX6_card 5 = .ok (.invokevirtual 64, 3) := by decide +kernel
theorem dX6_card_8 : decode cX6_card 8 = .ok (.astore_n 3, 1) := by decide +kernel
theorem dX6_card_9 : decode cX6_card 9 = .ok (.aload_n 3, 1) := by decide +kernel
theorem dX6_card_10 : decode cX6_card 10 = .ok (.iload_n 2, 1) := by decide +kernel
theorem dX6_card_11 : decode cX6_card 11 = .ok (.invokestatic 98, 3) := by decide +kernel
theorem dX6_card_14 : decode cX6_card 14 = .ok (.aload_n 3, 1) := by decide +kernel
theorem dX6_card_15 : decode cX6_card 15 = .ok (.iload_n 2, 1) := by decide +kernel
theorem dX6_card_16 : decode cX6_card 16 = .ok (.invokevirtual 87, 3) := by decide +kernel
theorem dX6_card_19 : decode cX6_card 19 = .ok (.ireturn, 1) := by decide +kernel
theorem dX6_find_0 : decode cX6_find 0 = .ok (.aload_n 0, 1) := by decide +kernel
theorem dX6_find_1 : decode cX6_find 1 = .ok (.iload_n 1, 1) := by decide +kernel
theorem dX6_find_2 : decode cX6_find 2 = .ok (.invokevirtual 60, 3) := by decide +kernel
theorem dX6_find_5 : decode cX6_find 5 = .ok (.invokevirtual 64, 3) := by decide +kernel
theorem dX6_find_8 : decode cX6_find 8 = .ok (.astore 4, 2) := by decide +kernel
theorem dX6_find_10 : decode cX6_find 10 = .ok (.aload 4, 2) := by decide +kernel
theorem dX6_find_12 : decode cX6_find 12 = .ok (.iload_n 2, 1) := by decide +kernel
theorem dX6_find_13 : decode cX6_find 13 = .ok (.invokevirtual 136, 3) := by decide +kernel
theorem dX6_find_16 : decode cX6_find 16 = .ok (.ifCond .ne 13, 3) := by decide +kernel
theorem dX6_find_19 : decode cX6_find 19 = .ok (.new 139, 3) := by decide +kernel
theorem dX6_find_22 : decode cX6_find 22 = .ok (.dup, 1) := by decide +kernel
theorem dX6_find_23 : decode cX6_find 23 = .ok (.ldc 141, 2) := by decide +kernel
theorem dX6_find_25 : decode cX6_find 25 = .ok (.invokespecial 143, 3) := by decide +kernel
theorem dX6_find_28 : decode cX6_find 28 = .ok (.athrow, 1) := by decide +kernel
theorem dX6_find_29 : decode cX6_find 29 = .ok (.aload 4, 2) := by decide +kernel
theorem dX6_find_31 : decode cX6_find 31 = .ok (.iload_n 2, 1) := by decide +kernel
theorem dX6_find_32 : decode cX6_find 32 = .ok (.invokevirtual 144, 3) := by decide +kernel
theorem dX6_find_35 : decode cX6_find 35 = .ok (.istore 5, 2) := by decide +kernel
theorem dX6_find_37 : decode cX6_find 37 = .ok (.iload_n 3, 1) := by decide +kernel
theorem dX6_find_38 : decode cX6_find 38 = .ok (.ifCond .eq 19, 3) := by decide +kernel
theorem dX6_find_41 : decode cX6_find 41 = .ok (.aload 4, 2) := by decide +kernel
theorem dX6_find_43 : decode cX6_find 43 = .ok (.iload 5, 2) := by decide +kernel
theorem dX6_find_45 : decode cX6_find 45 = .ok (.invokevirtual 104, 3) := by decide +kernel
theorem dX6_find_48 : decode cX6_find 48 = .ok (.ifCond .eq 7, 3) := by decide +kernel
theorem dX6_find_51 : decode cX6_find 51 = .ok (.iconst 1, 1) := by decide +kernel
theorem dX6_find_52 : decode cX6_find 52 = .ok (.goto 4, 3) := by decide +kernel
theorem dX6_find_55 : decode cX6_find 55 = .ok (.iconst 0, 1) := by decide +kernel
theorem dX6_find_56 : decode cX6_find 56 = .ok (.ireturn, 1) := by decide +kernel
theorem dX6_find_57 : decode cX6_find 57 = .ok (.iload 5, 2) := by decide +kernel
theorem dX6_find_59 : decode cX6_find 59 = .ok (.ireturn, 1) := by decide +kernel
theorem dX6_ofDeck_0 : decode cX6_ofDeck 0 = .ok (.aload_n 0, 1) := by decide +kernel
theorem dX6_ofDeck_1 : decode cX6_ofDeck 1 = .ok (.iload_n 1, 1) := by decide +kernel
theorem dX6_ofDeck_2 : decode cX6_ofDeck 2 = .ok (.invokevirtual 60, 3) := by decide +kernel
theorem dX6_ofDeck_5 : decode cX6_ofDeck 5 = .ok (.astore_n 3, 1) := by decide +kernel
theorem dX6_ofDeck_6 : decode cX6_ofDeck 6 = .ok (.iload_n 2, 1) := by decide +kernel
theorem dX6_ofDeck_7 : decode cX6_ofDeck 7 = .ok (.bipush 10, 2) := by decide +kernel
theorem dX6_ofDeck_9 : decode cX6_ofDeck 9 = .ok (.invokestatic 147, 3) := by decide +kernel
theorem dX6_ofDeck_12 : decode cX6_ofDeck 12 = .ok (.aload_n 3, 1) := by decide +kernel
theorem dX6_ofDeck_13 : decode cX6_ofDeck 13 = .ok (.invokevirtual 64, 3) := by decide +kernel
theorem dX6_ofDeck_16 : decode cX6_ofDeck 16 = .ok (.astore 4, 2) := by decide +kernel
theorem dX6_ofDeck_18 : decode cX6_ofDeck 18 = .ok (.iload_n 2, 1) := by decide +kernel
theorem dX6_ofDeck_19 : decode cX6_ofDeck 19 = .ok (.tableswitch 115 0 9 #[53, 59, 65, 71, 77, 83, 89, 98, 104, 109], 53) := by decide +kernel
theorem dX6_ofDeck_72 : decode cX6_ofDeck 72 = .ok (.aload 4, 2) := by decide +kernel
theorem dX6_ofDeck_74 : decode cX6_ofDeck 74 = .ok (.invokevirtual 68, 3) := by decide +kernel
theorem dX6_ofDeck_77 : decode cX6_ofDeck 77 = .ok (.ireturn, 1) := by decide +kernel
theorem dX6_ofDeck_78 : decode cX6_ofDeck 78 = .ok (.aload 4, 2) := by decide +kernel
theorem dX6_ofDeck_80 : decode cX6_ofDeck 80 = .ok (.invokestatic 150, 3) := by decide +kernel
theorem dX6_ofDeck_83 : decode cX6_ofDeck 83 = .ok (.ireturn, 1) := by decide +kernel
theorem dX6_ofDeck_84 : decode cX6_ofDeck 84 = .ok (.aload 4, 2) := by decide +kernel
theorem dX6_ofDeck_86 : decode cX6_ofDeck 86 = .ok (.invokestatic 156, 3) := by decide +kernel
theorem dX6_ofDeck_89 : decode cX6_ofDeck 89 = .ok (.ireturn, 1) := by decide +kernel
theorem dX6_ofDeck_90 : decode cX6_ofDeck 90 = .ok (.aload 4, 2) := by decide +kernel
theorem dX6_ofDeck_92 : decode cX6_ofDeck 92 = .ok (.invokestatic 159, 3) := by decide +kernel
theorem dX6_ofDeck_95 : decode cX6_ofDeck 95 = .ok (.ireturn, 1) := by decide +kernel
theorem dX6_ofDeck_96 : decode cX6_ofDeck 96 = .ok (.aload 4, 2) := by decide +kernel
theorem dX6_ofDeck_98 : decode cX6_ofDeck 98 = .ok (.invokestatic 162, 3) := by decide +kernel
theorem dX6_ofDeck_101 : decode cX6_ofDeck 101 = .ok (.ireturn, 1) := by decide +kernel
theorem dX6_ofDeck_102 : decode cX6_ofDeck 102 = .ok (.aload 4, 2) := by decide +kernel
theorem dX6_ofDeck_104 : decode cX6_ofDeck 104 = .ok (.invokestatic 167, 3) := by decide +kernel
theorem dX6_ofDeck_107 : decode cX6_ofDeck 107 = .ok (.ireturn, 1) := by decide +kernel
theorem dX6_ofDeck_108 : decode cX6_ofDeck 108 = .ok (.aload 4, 2) := by decide +kernel
theorem dX6_ofDeck_110 : decode cX6_ofDeck 110 = .ok (.invokestatic 167, 3) := by decide +kernel
theorem dX6_ofDeck_113 : decode cX6_ofDeck 113 = .ok (.invokestatic 170, 3) := by decide +kernel
theorem dX6_ofDeck_116 : decode cX6_ofDeck 116 = .ok (.ireturn, 1) := by decide +kernel
theorem dX6_ofDeck_117 : decode cX6_ofDeck 117 = .ok (.aload 4, 2) := by decide +kernel
theorem dX6_ofDeck_119 : decode cX6_ofDeck 119 = .ok (.invokestatic 173, 3) := by decide +kernel
theorem dX6_ofDeck_122 : decode cX6_ofDeck 122 = .ok (.ireturn, 1) := by decide +kernel
theorem dX6_ofDeck_123 : decode cX6_ofDeck 123 = .ok (.aload_n 3, 1) := by decide +kernel
theorem dX6_ofDeck_124 : decode cX6_ofDeck 124 = .ok (.invokevirtual 176, 3) := by decide +kernel
theorem dX6_ofDeck_127 : decode cX6_ofDeck 127 = .ok (.ireturn, 1) := by decide +kernel
theorem dX6_ofDeck_128 : decode cX6_ofDeck 128 = .ok (.aload 4, 2) := by decide +kernel
theorem dX6_ofDeck_130 : decode cX6_ofDeck 130 = .ok (.invokestatic 179, 3) := by decide +kernel
theorem dX6_ofDeck_133 : decode cX6_ofDeck 133 = .ok (.ireturn, 1) := by decide +kernel
theorem dX6_ofDeck_134 : decode cX6_ofDeck 134 = .ok (.aload 4, 2) := by decide +kernel
theorem dX6_ofDeck_136 : decode cX6_ofDeck 136 = .ok (.invokestatic 182, 3) := by decide +kernel
theorem dX6_ofDeck_139 : decode cX6_ofDeck 139 = .ok (.ireturn, 1) := by decide +kernel
theorem dX6_keeps_0 : decode cX6_keeps 0 = .ok (.aload_n 0, 1) := by decide +kernel
theorem dX6_keeps_1 : decode cX6_keeps 1 = .ok (.iload_n 1, 1) := by decide +kernel
theorem dX6_keeps_2 : decode cX6_keeps 2 = .ok (.invokevirtual 60, 3) := by decide +kernel
theorem dX6_keeps_5 : decode cX6_keeps 5 = .ok (.invokevirtual 64, 3) := by decide +kernel
theorem dX6_keeps_8 : decode cX6_keeps 8 = .ok (.astore_n 3, 1) := by decide +kernel
theorem dX6_keeps_9 : decode cX6_keeps 9 = .ok (.iload_n 2, 1) := by decide +kernel
theorem dX6_keeps_10 : decode cX6_keeps 10 = .ok (.iconst 5, 1) := by decide +kernel
theorem dX6_keeps_11 : decode cX6_keeps 11 = .ok (.invokestatic 147, 3) := by decide +kernel
theorem dX6_keeps_14 : decode cX6_keeps 14 = .ok (.iload_n 2, 1) := by decide +kernel
theorem dX6_keeps_15 : decode cX6_keeps 15 = .ok (.tableswitch 82 0 4 #[33, 39, 45, 50, 65], 33) := by decide +kernel
theorem dX6_keeps_48 : decode cX6_keeps 48 = .ok (.aload_n 3, 1) := by decide +kernel
theorem dX6_keeps_49 : decode cX6_keeps 49 = .ok (.iconst 2, 1) := by decide +kernel
theorem dX6_keeps_50 : decode cX6_keeps 50 = .ok (.invokestatic 185, 3) := by decide +kernel
theorem dX6_keeps_53 : decode cX6_keeps 53 = .ok (.ireturn, 1) := by decide +kernel
theorem dX6_keeps_54 : decode cX6_keeps 54 = .ok (.aload_n 3, 1) := by decide +kernel
theorem dX6_keeps_55 : decode cX6_keeps 55 = .ok (.iconst 4, 1) := by decide +kernel
theorem dX6_keeps_56 : decode cX6_keeps 56 = .ok (.invokestatic 185, 3) := by decide +kernel
theorem dX6_keeps_59 : decode cX6_keeps 59 = .ok (.ireturn, 1) := by decide +kernel
theorem dX6_keeps_60 : decode cX6_keeps 60 = .ok (.aload_n 3, 1) := by decide +kernel
theorem dX6_keeps_61 : decode cX6_keeps 61 = .ok (.invokestatic 189, 3) := by decide +kernel
theorem dX6_keeps_64 : decode cX6_keeps 64 = .ok (.ireturn, 1) := by decide +kernel
theorem dX6_keeps_65 : decode cX6_keeps 65 = .ok (.aload_n 3, 1) := by decide +kernel
theorem dX6_keeps_66 : decode cX6_keeps 66 = .ok (.invokestatic 162, 3) := by decide +kernel
theorem dX6_keeps_69 : decode cX6_keeps 69 = .ok (.iconst 2, 1) := by decide +kernel
theorem dX6_keeps_70 : decode cX6_keeps 70 = .ok (.irem, 1) := by decide +kernel
theorem dX6_keeps_71 : decode cX6_keeps 71 = .ok (.ifCond .ne 7, 3) := by decide +kernel
theorem dX6_keeps_74 : decode cX6_keeps 74 = .ok (.iconst 1, 1) := by decide +kernel
theorem dX6_keeps_75 : decode cX6_keeps 75 = .ok (.goto 4, 3) := by decide +kernel
theorem dX6_keeps_78 : decode cX6_keeps 78 = .ok (.iconst 0, 1) := by decide +kernel
theorem dX6_keeps_79 : decode cX6_keeps 79 = .ok (.ireturn, 1) := by decide +kernel
theorem dX6_keeps_80 : decode cX6_keeps 80 = .ok (.aload_n 3, 1) := by decide +kernel
theorem dX6_keeps_81 : decode cX6_keeps 81 = .ok (.invokestatic 156, 3) := by decide +kernel
theorem dX6_keeps_84 : decode cX6_keeps 84 = .ok (.aload_n 3, 1) := by decide +kernel
theorem dX6_keeps_85 : decode cX6_keeps 85 = .ok (.invokevirtual 68, 3) := by decide +kernel
theorem dX6_keeps_88 : decode cX6_keeps 88 = .ok (.if_icmp .ne 7, 3) := by decide +kernel
theorem dX6_keeps_91 : decode cX6_keeps 91 = .ok (.iconst 1, 1) := by decide +kernel
theorem dX6_keeps_92 : decode cX6_keeps 92 = .ok (.goto 4, 3) := by decide +kernel
theorem dX6_keeps_95 : decode cX6_keeps 95 = .ok (.iconst 0, 1) := by decide +kernel
theorem dX6_keeps_96 : decode cX6_keeps 96 = .ok (.ireturn, 1) := by decide +kernel
theorem dX6_keeps_97 : decode cX6_keeps 97 = .ok (.aload_n 3, 1) := by decide +kernel
theorem dX6_keeps_98 : decode cX6_keeps 98 = .ok (.invokestatic 193, 3) := by decide +kernel
theorem dX6_keeps_101 : decode cX6_keeps 101 = .ok (.ireturn, 1) := by decide +kernel
theorem dX6_chance_0 : decode cX6_chance 0 = .ok (.aload_n 0, 1) := by decide +kernel
theorem dX6_chance_1 : decode cX6_chance 1 = .ok (.iload_n 1, 1) := by decide +kernel
theorem dX6_chance_2 : decode cX6_chance 2 = .ok (.invokevirtual 60, 3) := by decide +kernel
theorem dX6_chance_5 : decode cX6_chance 5 = .ok (.invokevirtual 64, 3) := by decide +kernel
theorem dX6_chance_8 : decode cX6_chance 8 = .ok (.astore_n 3, 1) := by decide +kernel
theorem dX6_chance_9 : decode cX6_chance 9 = .ok (.iload_n 2, 1) := by decide +kernel
theorem dX6_chance_10 : decode cX6_chance 10 = .ok (.iconst 0, 1) := by decide +kernel
theorem dX6_chance_11 : decode cX6_chance 11 = .ok (.bipush 12, 2) := by decide +kernel
theorem dX6_chance_13 : decode cX6_chance 13 = .ok (.invokestatic 116, 3) := by decide +kernel
theorem dX6_chance_16 : decode cX6_chance 16 = .ok (.ifCond .ne 13, 3) := by decide +kernel
theorem dX6_chance_19 : decode cX6_chance 19 = .ok (.new 40, 3) := by decide +kernel
theorem dX6_chance_22 : decode cX6_chance 22 = .ok (.dup, 1) := by decide +kernel
theorem dX6_chance_23 : decode cX6_chance 23 = .ok (.ldc 196, 2) := by decide +kernel
theorem dX6_chance_25 : decode cX6_chance 25 = .ok (.invokespecial 44, 3) := by decide +kernel
theorem dX6_chance_28 : decode cX6_chance 28 = .ok (.athrow, 1) := by decide +kernel
theorem dX6_chance_29 : decode cX6_chance 29 = .ok (.iconst 1, 1) := by decide +kernel
theorem dX6_chance_30 : decode cX6_chance 30 = .ok (.iload_n 2, 1) := by decide +kernel
theorem dX6_chance_31 : decode cX6_chance 31 = .ok (.ishl, 1) := by decide +kernel
theorem dX6_chance_32 : decode cX6_chance 32 = .ok (.istore 4, 2) := by decide +kernel
theorem dX6_chance_34 : decode cX6_chance 34 = .ok (.aload_n 3, 1) := by decide +kernel
theorem dX6_chance_35 : decode cX6_chance 35 = .ok (.invokestatic 167, 3) := by decide +kernel
theorem dX6_chance_38 : decode cX6_chance 38 = .ok (.istore 5, 2) := by decide +kernel
theorem dX6_chance_40 : decode cX6_chance 40 = .ok (.iload 4, 2) := by decide +kernel
theorem dX6_chance_42 : decode cX6_chance 42 = .ok (.iload 5, 2) := by decide +kernel
theorem dX6_chance_44 : decode cX6_chance 44 = .ok (.if_icmp .ge 5, 3) := by decide +kernel
theorem dX6_chance_47 : decode cX6_chance 47 = .ok (.dconst 0, 1) := by decide +kernel
theorem dX6_chance_48 : decode cX6_chance 48 = .ok (.dreturn, 1) := by decide +kernel
theorem dX6_chance_49 : decode cX6_chance 49 = .ok (.dconst 1, 1) := by decide +kernel
theorem dX6_chance_50 : decode cX6_chance 50 = .ok (.dstore 6, 2) := by decide +kernel
theorem dX6_chance_52 : decode cX6_chance 52 = .ok (.iconst 1, 1) := by decide +kernel
theorem dX6_chance_53 : decode cX6_chance 53 = .ok (.istore 8, 2) := by decide +kernel
theorem dX6_chance_55 : decode cX6_chance 55 = .ok (.iload 8, 2) := by decide +kernel
theorem dX6_chance_57 : decode cX6_chance 57 = .ok (.aload_n 3, 1) := by decide +kernel
theorem dX6_chance_58 : decode cX6_chance 58 = .ok (.invokevirtual 68, 3) := by decide +kernel
theorem dX6_chance_61 : decode cX6_chance 61 = .ok (.if_icmp .gt 39, 3) := by decide +kernel
theorem dX6_chance_64 : decode cX6_chance 64 = .ok (.dload 6, 2) := by decide +kernel
theorem dX6_chance_66 : decode cX6_chance 66 = .ok (.iload 4, 2) := by decide +kernel
theorem dX6_chance_68 : decode cX6_chance 68 = .ok (.iload 5, 2) := by decide +kernel
theorem dX6_chance_70 : decode cX6_chance 70 = .ok (.isub, 1) := by decide +kernel
theorem dX6_chance_71 : decode cX6_chance 71 = .ok (.iload 8, 2) := by decide +kernel
theorem dX6_chance_73 : decode cX6_chance 73 = .ok (.iadd, 1) := by decide +kernel
theorem dX6_chance_74 : decode cX6_chance 74 = .ok (.i2d, 1) := by decide +kernel
theorem dX6_chance_75 : decode cX6_chance 75 = .ok (.dmul, 1) := by decide +kernel
theorem dX6_chance_76 : decode cX6_chance 76 = .ok (.dstore 6, 2) := by decide +kernel
theorem dX6_chance_78 : decode cX6_chance 78 = .ok (.dload 6, 2) := by decide +kernel
theorem dX6_chance_80 : decode cX6_chance 80 = .ok (.iload 8, 2) := by decide +kernel
theorem dX6_chance_82 : decode cX6_chance 82 = .ok (.i2d, 1) := by decide +kernel
theorem dX6_chance_83 : decode cX6_chance 83 = .ok (.ddiv, 1) := by decide +kernel
theorem dX6_chance_84 : decode cX6_chance 84 = .ok (.dstore 6, 2) := by decide +kernel
theorem dX6_chance_86 : decode cX6_chance 86 = .ok (.dload 6, 2) := by decide +kernel
theorem dX6_chance_88 : decode cX6_chance 88 = .ok (.iload 4, 2) := by decide +kernel
theorem dX6_chance_90 : decode cX6_chance 90 = .ok (.i2d, 1) := by decide +kernel
theorem dX6_chance_91 : decode cX6_chance 91 = .ok (.ddiv, 1) := by decide +kernel
theorem dX6_chance_92 : decode cX6_chance 92 = .ok (.dstore 6, 2) := by decide +kernel
theorem dX6_chance_94 : decode cX6_chance 94 = .ok (.iinc 8 1, 3) := by decide +kernel
theorem dX6_chance_97 : decode cX6_chance 97 = .ok (.goto (-42), 3) := by decide +kernel
theorem dX6_chance_100 : decode cX6_chance 100 = .ok (.dload 6, 2) := by decide +kernel
theorem dX6_chance_102 : decode cX6_chance 102 = .ok (.dreturn, 1) := by decide +kernel
theorem dX6_far_0 : decode cX6_far 0 = .ok (.aload_n 0, 1) := by decide +kernel
theorem dX6_far_1 : decode cX6_far 1 = .ok (.iload_n 1, 1) := by decide +kernel
theorem dX6_far_2 : decode cX6_far 2 = .ok (.invokevirtual 60, 3) := by decide +kernel
theorem dX6_far_5 : decode cX6_far 5 = .ok (.invokevirtual 64, 3) := by decide +kernel
theorem dX6_far_8 : decode cX6_far 8 = .ok (.astore_n 2, 1) := by decide +kernel
theorem dX6_far_9 : decode cX6_far 9 = .ok (.aload_n 2, 1) := by decide +kernel
theorem dX6_far_10 : decode cX6_far 10 = .ok (.invokevirtual 68, 3) := by decide +kernel
theorem dX6_far_13 : decode cX6_far 13 = .ok (.istore_n 3, 1) := by decide +kernel
theorem dX6_far_14 : decode cX6_far 14 = .ok (.iconst 0, 1) := by decide +kernel
theorem dX6_far_15 : decode cX6_far 15 = .ok (.istore 4, 2) := by decide +kernel
theorem dX6_far_17 : decode cX6_far 17 = .ok (.iconst 0, 1) := by decide +kernel
theorem dX6_far_18 : decode cX6_far 18 = .ok (.istore 5, 2) := by decide +kernel
theorem dX6_far_20 : decode cX6_far 20 = .ok (.iload 5, 2) := by decide +kernel
theorem dX6_far_22 : decode cX6_far 22 = .ok (.iload_n 3, 1) := by decide +kernel
theorem dX6_far_23 : decode cX6_far 23 = .ok (.if_icmp .ge 26, 3) := by decide +kernel
theorem dX6_far_26 : decode cX6_far 26 = .ok (.iload 4, 2) := by decide +kernel
theorem dX6_far_28 : decode cX6_far 28 = .ok (.iload 5, 2) := by decide +kernel
theorem dX6_far_30 : decode cX6_far 30 = .ok (.aload_n 2, 1) := by decide +kernel
theorem dX6_far_31 : decode cX6_far 31 = .ok (.iload 5, 2) := by decide +kernel
theorem dX6_far_33 : decode cX6_far 33 = .ok (.invokevirtual 87, 3) := by decide +kernel
theorem dX6_far_36 : decode cX6_far 36 = .ok (.isub, 1) := by decide +kernel
theorem dX6_far_37 : decode cX6_far 37 = .ok (.invokestatic 198, 3) := by decide +kernel
theorem dX6_far_40 : decode cX6_far 40 = .ok (.iadd, 1) := by decide +kernel
theorem dX6_far_41 : decode cX6_far 41 = .ok (.istore 4, 2) := by decide +kernel
theorem dX6_far_43 : decode cX6_far 43 = .ok (.iinc 5 1, 3) := by decide +kernel
theorem dX6_far_46 : decode cX6_far 46 = .ok (.goto (-26), 3) := by decide +kernel
theorem dX6_far_49 : decode cX6_far 49 = .ok (.iload 4, 2) := by decide +kernel
theorem dX6_far_51 : decode cX6_far 51 = .ok (.i2d, 1) := by decide +kernel
theorem dX6_far_52 : decode cX6_far 52 = .ok (.iload_n 3, 1) := by decide +kernel
theorem dX6_far_53 : decode cX6_far 53 = .ok (.i2d, 1) := by decide +kernel
theorem dX6_far_54 : decode cX6_far 54 = .ok (.ddiv, 1) := by decide +kernel
theorem dX6_far_55 : decode cX6_far 55 = .ok (.dreturn, 1) := by decide +kernel
theorem dX6_alike_0 : decode cX6_alike 0 = .ok (.aload_n 0, 1) := by decide +kernel
theorem dX6_alike_1 : decode cX6_alike 1 = .ok (.iload_n 1, 1) := by decide +kernel
theorem dX6_alike_2 : decode cX6_alike 2 = .ok (.invokevirtual 60, 3) := by decide +kernel
theorem dX6_alike_5 : decode cX6_alike 5 = .ok (.invokevirtual 64, 3) := by decide +kernel
theorem dX6_alike_8 : decode cX6_alike 8 = .ok (.astore_n 3, 1) := by decide +kernel
theorem dX6_alike_9 : decode cX6_alike 9 = .ok (.aload_n 0, 1) := by decide +kernel
theorem dX6_alike_10 : decode cX6_alike 10 = .ok (.iload_n 2, 1) := by decide +kernel
theorem dX6_alike_11 : decode cX6_alike 11 = .ok (.invokevirtual 60, 3) := by decide +kernel
theorem dX6_alike_14 : decode cX6_alike 14 = .ok (.invokevirtual 64, 3) := by decide +kernel
theorem dX6_alike_17 : decode cX6_alike 17 = .ok (.astore 4, 2) := by decide +kernel
theorem dX6_alike_19 : decode cX6_alike 19 = .ok (.aload_n 3, 1) := by decide +kernel
theorem dX6_alike_20 : decode cX6_alike 20 = .ok (.invokevirtual 68, 3) := by decide +kernel
theorem dX6_alike_23 : decode cX6_alike 23 = .ok (.aload 4, 2) := by decide +kernel
theorem dX6_alike_25 : decode cX6_alike 25 = .ok (.invokevirtual 68, 3) := by decide +kernel
theorem dX6_alike_28 : decode cX6_alike 28 = .ok (.invokestatic 203, 3) := by decide +kernel
theorem dX6_alike_31 : decode cX6_alike 31 = .ok (.istore 5, 2) := by decide +kernel
theorem dX6_alike_33 : decode cX6_alike 33 = .ok (.iconst 0, 1) := by decide +kernel
theorem dX6_alike_34 : decode cX6_alike 34 = .ok (.istore 6, 2) := by decide +kernel
theorem dX6_alike_36 : decode cX6_alike 36 = .ok (.iconst 0, 1) := by decide +kernel
theorem dX6_alike_37 : decode cX6_alike 37 = .ok (.istore 7, 2) := by decide +kernel
theorem dX6_alike_39 : decode cX6_alike 39 = .ok (.iload 7, 2) := by decide +kernel
theorem dX6_alike_41 : decode cX6_alike 41 = .ok (.iload 5, 2) := by decide +kernel
theorem dX6_alike_43 : decode cX6_alike 43 = .ok (.if_icmp .ge 44, 3) := by decide +kernel
theorem dX6_alike_46 : decode cX6_alike 46 = .ok (.aload_n 3, 1) := by decide +kernel
theorem dX6_alike_47 : decode cX6_alike 47 = .ok (.iload 7, 2) := by decide +kernel
theorem dX6_alike_49 : decode cX6_alike 49 = .ok (.invokevirtual 87, 3) := by decide +kernel
theorem dX6_alike_52 : decode cX6_alike 52 = .ok (.aload 4, 2) := by decide +kernel
theorem dX6_alike_54 : decode cX6_alike 54 = .ok (.iload 7, 2) := by decide +kernel
theorem dX6_alike_56 : decode cX6_alike 56 = .ok (.invokevirtual 87, 3) := by decide +kernel
theorem dX6_alike_59 : decode cX6_alike 59 = .ok (.if_icmp .ne 22, 3) := by decide +kernel
theorem dX6_alike_62 : decode cX6_alike 62 = .ok (.aload_n 3, 1) := by decide +kernel
theorem dX6_alike_63 : decode cX6_alike 63 = .ok (.iload 7, 2) := by decide +kernel
theorem dX6_alike_65 : decode cX6_alike 65 = .ok (.invokevirtual 104, 3) := by decide +kernel
theorem dX6_alike_68 : decode cX6_alike 68 = .ok (.aload 4, 2) := by decide +kernel
theorem dX6_alike_70 : decode cX6_alike 70 = .ok (.iload 7, 2) := by decide +kernel
theorem dX6_alike_72 : decode cX6_alike 72 = .ok (.invokevirtual 104, 3) := by decide +kernel
theorem dX6_alike_75 : decode cX6_alike 75 = .ok (.if_icmp .ne 6, 3) := by decide +kernel
theorem dX6_alike_78 : decode cX6_alike 78 = .ok (.iinc 6 1, 3) := by decide +kernel
theorem dX6_alike_81 : decode cX6_alike 81 = .ok (.iinc 7 1, 3) := by decide +kernel
theorem dX6_alike_84 : decode cX6_alike 84 = .ok (.goto (-45), 3) := by decide +kernel
theorem dX6_alike_87 : decode cX6_alike 87 = .ok (.iload 6, 2) := by decide +kernel
theorem dX6_alike_89 : decode cX6_alike 89 = .ok (.ireturn, 1) := by decide +kernel
theorem dX6_ofSequence_0 : decode cX6_ofSequence 0 = .ok (.aload_n 0, 1) := by decide +kernel
theorem dX6_ofSequence_1 : decode cX6_ofSequence 1 = .ok (.iload_n 1, 1) := by decide +kernel
theorem dX6_ofSequence_2 : decode cX6_ofSequence 2 = .ok (.invokevirtual 112, 3) := by decide +kernel
theorem dX6_ofSequence_5 : decode cX6_ofSequence 5 = .ok (.astore_n 3, 1) := by decide +kernel
theorem dX6_ofSequence_6 : decode cX6_ofSequence 6 = .ok (.iload_n 2, 1) := by decide +kernel
theorem dX6_ofSequence_7 : decode cX6_ofSequence 7 = .ok (.aload_n 3, 1) := by decide +kernel
theorem dX6_ofSequence_8 : decode cX6_ofSequence 8 = .ok (.invokevirtual 122, 3) := by decide +kernel
theorem dX6_ofSequence_11 : decode cX6_ofSequence 11 = .ok (.invokestatic 147, 3) := by decide +kernel
theorem dX6_ofSequence_14 : decode cX6_ofSequence 14 = .ok (.iload_n 2, 1) := by decide +kernel
theorem dX6_ofSequence_15 : decode cX6_ofSequence 15 = .ok (.ifCond .ne 8, 3) := by decide +kernel
theorem dX6_ofSequence_18 : decode cX6_ofSequence 18 = .ok (.aload_n 3, 1) := by decide +kernel
theorem dX6_ofSequence_19 : decode cX6_ofSequence 19 = .ok (.invokevirtual 122, 3) := by decide +kernel
theorem dX6_ofSequence_22 : decode cX6_ofSequence 22 = .ok (.ireturn, 1) := by decide +kernel
theorem dX6_ofSequence_23 : decode cX6_ofSequence 23 = .ok (.aload_n 3, 1) := by decide +kernel
theorem dX6_ofSequence_24 : decode cX6_ofSequence 24 = .ok (.iload_n 2, 1) := by decide +kernel
theorem dX6_ofSequence_25 : decode cX6_ofSequence 25 = .ok (.iconst 1, 1) := by decide +kernel
theorem dX6_ofSequence_26 : decode cX6_ofSequence 26 = .ok (.isub, 1) := by decide +kernel
theorem dX6_ofSequence_27 : decode cX6_ofSequence 27 = .ok (.invokevirtual 207, 3) := by decide +kernel
theorem dX6_ofSequence_30 : decode cX6_ofSequence 30 = .ok (.ldc 210, 2) := by decide +kernel
theorem dX6_ofSequence_32 : decode cX6_ofSequence 32 = .ok (.imul, 1) := by decide +kernel
theorem dX6_ofSequence_33 : decode cX6_ofSequence 33 = .ok (.aload_n 3, 1) := by decide +kernel
theorem dX6_ofSequence_34 : decode cX6_ofSequence 34 = .ok (.iload_n 2, 1) := by decide +kernel
theorem dX6_ofSequence_35 : decode cX6_ofSequence 35 = .ok (.iconst 1, 1) := by decide +kernel
theorem dX6_ofSequence_36 : decode cX6_ofSequence 36 = .ok (.isub, 1) := by decide +kernel
theorem dX6_ofSequence_37 : decode cX6_ofSequence 37 = .ok (.invokevirtual 211, 3) := by decide +kernel
theorem dX6_ofSequence_40 : decode cX6_ofSequence 40 = .ok (.ldc 210, 2) := by decide +kernel
theorem dX6_ofSequence_42 : decode cX6_ofSequence 42 = .ok (.irem, 1) := by decide +kernel
theorem dX6_ofSequence_43 : decode cX6_ofSequence 43 = .ok (.iadd, 1) := by decide +kernel
theorem dX6_ofSequence_44 : decode cX6_ofSequence 44 = .ok (.ireturn, 1) := by decide +kernel
theorem dX6_period_0 : decode cX6_period 0 = .ok (.aload_n 0, 1) := by decide +kernel
theorem dX6_period_1 : decode cX6_period 1 = .ok (.iload_n 1, 1) := by decide +kernel
theorem dX6_period_2 : decode cX6_period 2 = .ok (.invokevirtual 112, 3) := by decide +kernel
theorem dX6_period_5 : decode cX6_period 5 = .ok (.astore_n 3, 1) := by decide +kernel
theorem dX6_period_6 : decode cX6_period 6 = .ok (.iload_n 2, 1) := by decide +kernel
theorem dX6_period_7 : decode cX6_period 7 = .ok (.invokestatic 36, 3) := by decide +kernel
theorem dX6_period_10 : decode cX6_period 10 = .ok (.ifCond .ne 13, 3) := by decide +kernel
theorem dX6_period_13 : decode cX6_period 13 = .ok (.new 40, 3) := by decide +kernel
theorem dX6_period_16 : decode cX6_period 16 = .ok (.dup, 1) := by decide +kernel
theorem dX6_period_17 : decode cX6_period 17 = .ok (.ldc 42, 2) := by decide +kernel
theorem dX6_period_19 : decode cX6_period 19 = .ok (.invokespecial 44, 3) := by decide +kernel
theorem dX6_period_22 : decode cX6_period 22 = .ok (.athrow, 1) := by decide +kernel
theorem dX6_period_23 : decode cX6_period 23 = .ok (.aload_n 3, 1) := by decide +kernel
theorem dX6_period_24 : decode cX6_period 24 = .ok (.aload_n 0, 1) := by decide +kernel
theorem dX6_period_25 : decode cX6_period 25 = .ok (.getfield 24, 3) := by decide +kernel
theorem dX6_period_28 : decode cX6_period 28 = .ok (.aload_n 0, 1) := by decide +kernel
theorem dX6_period_29 : decode cX6_period 29 = .ok (.getfield 28, 3) := by decide +kernel
theorem dX6_period_32 : decode cX6_period 32 = .ok (.iload_n 2, 1) := by decide +kernel
theorem dX6_period_33 : decode cX6_period 33 = .ok (.invokevirtual 131, 3) := by decide +kernel
theorem dX6_period_36 : decode cX6_period 36 = .ok (.ifCond .ne 5, 3) := by decide +kernel
theorem dX6_period_39 : decode cX6_period 39 = .ok (.iconst (-1), 1) := by decide +kernel
theorem dX6_period_40 : decode cX6_period 40 = .ok (.ireturn, 1) := by decide +kernel
theorem dX6_period_41 : decode cX6_period 41 = .ok (.aload_n 0, 1) := by decide +kernel
theorem dX6_period_42 : decode cX6_period 42 = .ok (.getfield 24, 3) := by decide +kernel
theorem dX6_period_45 : decode cX6_period 45 = .ok (.invokestatic 212, 3) := by decide +kernel
theorem dX6_period_48 : decode cX6_period 48 = .ok (.ireturn, 1) := by decide +kernel
theorem dX6_many_0 : decode cX6_many 0 = .ok (.iload_n 1, 1) := by decide +kernel
theorem dX6_many_1 : decode cX6_many 1 = .ok (.iconst 5, 1) := by decide +kernel
theorem dX6_many_2 : decode cX6_many 2 = .ok (.invokestatic 147, 3) := by decide +kernel
theorem dX6_many_5 : decode cX6_many 5 = .ok (.iload_n 1, 1) := by decide +kernel
theorem dX6_many_6 : decode cX6_many 6 = .ok (.tableswitch 59 0 4 #[34, 39, 44, 49, 54], 34) := by decide +kernel
theorem dX6_many_40 : decode cX6_many 40 = .ok (.aload_n 0, 1) := by decide +kernel
theorem dX6_many_41 : decode cX6_many 41 = .ok (.getfield 47, 3) := by decide +kernel
theorem dX6_many_44 : decode cX6_many 44 = .ok (.ireturn, 1) := by decide +kernel
theorem dX6_many_45 : decode cX6_many 45 = .ok (.aload_n 0, 1) := by decide +kernel
theorem dX6_many_46 : decode cX6_many 46 = .ok (.getfield 107, 3) := by decide +kernel
theorem dX6_many_49 : decode cX6_many 49 = .ok (.ireturn, 1) := by decide +kernel
theorem dX6_many_50 : decode cX6_many 50 = .ok (.aload_n 0, 1) := by decide +kernel
theorem dX6_many_51 : decode cX6_many 51 = .ok (.invokevirtual 215, 3) := by decide +kernel
theorem dX6_many_54 : decode cX6_many 54 = .ok (.ireturn, 1) := by decide +kernel
theorem dX6_many_55 : decode cX6_many 55 = .ok (.aload_n 0, 1) := by decide +kernel
theorem dX6_many_56 : decode cX6_many 56 = .ok (.getfield 95, 3) := by decide +kernel
theorem dX6_many_59 : decode cX6_many 59 = .ok (.ireturn, 1) := by decide +kernel
theorem dX6_many_60 : decode cX6_many 60 = .ok (.aload_n 0, 1) := by decide +kernel
theorem dX6_many_61 : decode cX6_many 61 = .ok (.invokevirtual 218, 3) := by decide +kernel
theorem dX6_many_64 : decode cX6_many 64 = .ok (.ireturn, 1) := by decide +kernel
theorem dX6_many_65 : decode cX6_many 65 = .ok (.aload_n 0, 1) := by decide +kernel
theorem dX6_many_66 : decode cX6_many 66 = .ok (.invokevirtual 221, 3) := by decide +kernel
theorem dX6_many_69 : decode cX6_many 69 = .ok (.ireturn, 1) := by decide +kernel
theorem dX6_toTop_0 : decode cX6_toTop 0 = .ok (.aload_n 0, 1) := by decide +kernel
theorem dX6_toTop_1 : decode cX6_toTop 1 = .ok (.iload_n 1, 1) := by decide +kernel
theorem dX6_toTop_2 : decode cX6_toTop 2 = .ok (.invokevirtual 60, 3) := by decide +kernel
theorem dX6_toTop_5 : decode cX6_toTop 5 = .ok (.invokevirtual 64, 3) := by decide +kernel
theorem dX6_toTop_8 : decode cX6_toTop 8 = .ok (.astore_n 3, 1) := by decide +kernel
theorem dX6_toTop_9 : decode cX6_toTop 9 = .ok (.aload_n 3, 1) := by decide +kernel
theorem dX6_toTop_10 : decode cX6_toTop 10 = .ok (.iload_n 2, 1) := by decide +kernel
theorem dX6_toTop_11 : decode cX6_toTop 11 = .ok (.invokestatic 98, 3) := by decide +kernel
theorem dX6_toTop_14 : decode cX6_toTop 14 = .ok (.aload_n 3, 1) := by decide +kernel
theorem dX6_toTop_15 : decode cX6_toTop 15 = .ok (.invokevirtual 68, 3) := by decide +kernel
theorem dX6_toTop_18 : decode cX6_toTop 18 = .ok (.istore 4, 2) := by decide +kernel
theorem dX6_toTop_20 : decode cX6_toTop 20 = .ok (.iload 4, 2) := by decide +kernel
theorem dX6_toTop_22 : decode cX6_toTop 22 = .ok (.iconst 2, 1) := by decide +kernel
theorem dX6_toTop_23 : decode cX6_toTop 23 = .ok (.irem, 1) := by decide +kernel
theorem dX6_toTop_24 : decode cX6_toTop 24 = .ok (.ifCond .eq 5, 3) := by decide +kernel
theorem dX6_toTop_27 : decode cX6_toTop 27 = .ok (.iconst (-1), 1) := by decide +kernel
theorem dX6_toTop_28 : decode cX6_toTop 28 = .ok (.ireturn, 1) := by decide +kernel
theorem dX6_toTop_29 : decode cX6_toTop 29 = .ok (.iconst 1, 1) := by decide +kernel
theorem dX6_toTop_30 : decode cX6_toTop 30 = .ok (.iload_n 2, 1) := by decide +kernel
theorem dX6_toTop_31 : decode cX6_toTop 31 = .ok (.ishl, 1) := by decide +kernel
theorem dX6_toTop_32 : decode cX6_toTop 32 = .ok (.istore 5, 2) := by decide +kernel
theorem dX6_toTop_34 : decode cX6_toTop 34 = .ok (.iconst 0, 1) := by decide +kernel
theorem dX6_toTop_35 : decode cX6_toTop 35 = .ok (.istore 6, 2) := by decide +kernel
theorem dX6_toTop_37 : decode cX6_toTop 37 = .ok (.iload 6, 2) := by decide +kernel
theorem dX6_toTop_39 : decode cX6_toTop 39 = .ok (.iload 4, 2) := by decide +kernel
theorem dX6_toTop_41 : decode cX6_toTop 41 = .ok (.if_icmp .gt 30, 3) := by decide +kernel
theorem dX6_toTop_44 : decode cX6_toTop 44 = .ok (.iload 5, 2) := by decide +kernel
theorem dX6_toTop_46 : decode cX6_toTop 46 = .ok (.iconst 1, 1) := by decide +kernel
theorem dX6_toTop_47 : decode cX6_toTop 47 = .ok (.iand, 1) := by decide +kernel
theorem dX6_toTop_48 : decode cX6_toTop 48 = .ok (.ifCond .eq 6, 3) := by decide +kernel
theorem dX6_toTop_51 : decode cX6_toTop 51 = .ok (.iload 6, 2) := by decide +kernel
theorem dX6_toTop_53 : decode cX6_toTop 53 = .ok (.ireturn, 1) := by decide +kernel
theorem dX6_toTop_54 : decode cX6_toTop 54 = .ok (.iload 5, 2) := by decide +kernel
theorem dX6_toTop_56 : decode cX6_toTop 56 = .ok (.iload 4, 2) := by decide +kernel
theorem dX6_toTop_58 : decode cX6_toTop 58 = .ok (.iconst 2, 1) := by decide +kernel
theorem dX6_toTop_59 : decode cX6_toTop 59 = .ok (.idiv, 1) := by decide +kernel
theorem dX6_toTop_60 : decode cX6_toTop 60 = .ok (.invokestatic 224, 3) := by decide +kernel
theorem dX6_toTop_63 : decode cX6_toTop 63 = .ok (.istore 5, 2) := by decide +kernel
theorem dX6_toTop_65 : decode cX6_toTop 65 = .ok (.iinc 6 1, 3) := by decide +kernel
theorem dX6_toTop_68 : decode cX6_toTop 68 = .ok (.goto (-31), 3) := by decide +kernel
theorem dX6_toTop_71 : decode cX6_toTop 71 = .ok (.iconst (-1), 1) := by decide +kernel
theorem dX6_toTop_72 : decode cX6_toTop 72 = .ok (.ireturn, 1) := by decide +kernel
theorem dX6_goes_0 : decode cX6_goes 0 = .ok (.aload_n 0, 1) := by decide +kernel
theorem dX6_goes_1 : decode cX6_goes 1 = .ok (.iload_n 1, 1) := by decide +kernel
theorem dX6_goes_2 : decode cX6_goes 2 = .ok (.invokevirtual 60, 3) := by decide +kernel
theorem dX6_goes_5 : decode cX6_goes 5 = .ok (.invokevirtual 64, 3) := by decide +kernel
theorem dX6_goes_8 : decode cX6_goes 8 = .ok (.astore 5, 2) := by decide +kernel
theorem dX6_goes_10 : decode cX6_goes 10 = .ok (.aload 5, 2) := by decide +kernel
theorem dX6_goes_12 : decode cX6_goes 12 = .ok (.iload_n 2, 1) := by decide +kernel
theorem dX6_goes_13 : decode cX6_goes 13 = .ok (.invokestatic 98, 3) := by decide +kernel
theorem dX6_goes_16 : decode cX6_goes 16 = .ok (.aload_n 0, 1) := by decide +kernel
theorem dX6_goes_17 : decode cX6_goes 17 = .ok (.getfield 24, 3) := by decide +kernel
theorem dX6_goes_20 : decode cX6_goes 20 = .ok (.iload_n 3, 1) := by decide +kernel
theorem dX6_goes_21 : decode cX6_goes 21 = .ok (.iload 4, 2) := by decide +kernel
theorem dX6_goes_23 : decode cX6_goes 23 = .ok (.aload 5, 2) := by decide +kernel
theorem dX6_goes_25 : decode cX6_goes 25 = .ok (.invokevirtual 68, 3) := by decide +kernel
theorem dX6_goes_28 : decode cX6_goes 28 = .ok (.invokestatic 72, 3) := by decide +kernel
theorem dX6_goes_31 : decode cX6_goes 31 = .ok (.ifCond .ne 13, 3) := by decide +kernel
theorem dX6_goes_34 : decode cX6_goes 34 = .ok (.new 40, 3) := by decide +kernel
theorem dX6_goes_37 : decode cX6_goes 37 = .ok (.dup, 1) := by decide +kernel
theorem dX6_goes_38 : decode cX6_goes 38 = .ok (.ldc 78, 2) := by decide +kernel
theorem dX6_goes_40 : decode cX6_goes 40 = .ok (.invokespecial 44, 3) := by decide +kernel
theorem dX6_goes_43 : decode cX6_goes 43 = .ok (.athrow, 1) := by decide +kernel
theorem dX6_goes_44 : decode cX6_goes 44 = .ok (.aload_n 0, 1) := by decide +kernel
theorem dX6_goes_45 : decode cX6_goes 45 = .ok (.getfield 24, 3) := by decide +kernel
theorem dX6_goes_48 : decode cX6_goes 48 = .ok (.iload_n 2, 1) := by decide +kernel
theorem dX6_goes_49 : decode cX6_goes 49 = .ok (.invokevirtual 144, 3) := by decide +kernel
theorem dX6_goes_52 : decode cX6_goes 52 = .ok (.ireturn, 1) := by decide +kernel
theorem dX6_best_0 : decode cX6_best 0 = .ok (.aload_n 0, 1) := by decide +kernel
theorem dX6_best_1 : decode cX6_best 1 = .ok (.iload_n 1, 1) := by decide +kernel
theorem dX6_best_2 : decode cX6_best 2 = .ok (.invokevirtual 60, 3) := by decide +kernel
theorem dX6_best_5 : decode cX6_best 5 = .ok (.invokevirtual 64, 3) := by decide +kernel
theorem dX6_best_8 : decode cX6_best 8 = .ok (.astore_n 2, 1) := by decide +kernel
theorem dX6_best_9 : decode cX6_best 9 = .ok (.iconst (-1), 1) := by decide +kernel
theorem dX6_best_10 : decode cX6_best 10 = .ok (.istore_n 3, 1) := by decide +kernel
theorem dX6_best_11 : decode cX6_best 11 = .ok (.iconst 0, 1) := by decide +kernel
theorem dX6_best_12 : decode cX6_best 12 = .ok (.istore 4, 2) := by decide +kernel
theorem dX6_best_14 : decode cX6_best 14 = .ok (.iconst 1, 1) := by decide +kernel
theorem dX6_best_15 : decode cX6_best 15 = .ok (.istore 5, 2) := by decide +kernel
theorem dX6_best_17 : decode cX6_best 17 = .ok (.iload 5, 2) := by decide +kernel
theorem dX6_best_19 : decode cX6_best 19 = .ok (.iconst 5, 1) := by decide +kernel
theorem dX6_best_20 : decode cX6_best 20 = .ok (.if_icmp .gt 87, 3) := by decide +kernel
theorem dX6_best_23 : decode cX6_best 23 = .ok (.iload 5, 2) := by decide +kernel
theorem dX6_best_25 : decode cX6_best 25 = .ok (.iconst 5, 1) := by decide +kernel
theorem dX6_best_26 : decode cX6_best 26 = .ok (.if_icmp .ne 7, 3) := by decide +kernel
theorem dX6_best_29 : decode cX6_best 29 = .ok (.iconst 2, 1) := by decide +kernel
theorem dX6_best_30 : decode cX6_best 30 = .ok (.goto 4, 3) := by decide +kernel
theorem dX6_best_33 : decode cX6_best 33 = .ok (.iconst 0, 1) := by decide +kernel
theorem dX6_best_34 : decode cX6_best 34 = .ok (.istore 6, 2) := by decide +kernel
theorem dX6_best_36 : decode cX6_best 36 = .ok (.aload_n 0, 1) := by decide +kernel
theorem dX6_best_37 : decode cX6_best 37 = .ok (.getfield 24, 3) := by decide +kernel
theorem dX6_best_40 : decode cX6_best 40 = .ok (.iload 5, 2) := by decide +kernel
theorem dX6_best_42 : decode cX6_best 42 = .ok (.iload 6, 2) := by decide +kernel
theorem dX6_best_44 : decode cX6_best 44 = .ok (.aload_n 2, 1) := by decide +kernel
theorem dX6_best_45 : decode cX6_best 45 = .ok (.invokevirtual 68, 3) := by decide +kernel
theorem dX6_best_48 : decode cX6_best 48 = .ok (.invokestatic 72, 3) := by decide +kernel
theorem dX6_best_51 : decode cX6_best 51 = .ok (.ifCond .eq 50, 3) := by decide +kernel
theorem dX6_best_54 : decode cX6_best 54 = .ok (.aload_n 0, 1) := by decide +kernel
theorem dX6_best_55 : decode cX6_best 55 = .ok (.getfield 31, 3) := by decide +kernel
theorem dX6_best_58 : decode cX6_best 58 = .ok (.aload_n 2, 1) := by decide +kernel
theorem dX6_best_59 : decode cX6_best 59 = .ok (.invokevirtual 227, 3) := by decide +kernel
theorem dX6_best_62 : decode cX6_best 62 = .ok (.aload_n 0, 1) := by decide +kernel
theorem dX6_best_63 : decode cX6_best 63 = .ok (.getfield 31, 3) := by decide +kernel
theorem dX6_best_66 : decode cX6_best 66 = .ok (.aload_n 0, 1) := by decide +kernel
theorem dX6_best_67 : decode cX6_best 67 = .ok (.getfield 24, 3) := by decide +kernel
theorem dX6_best_70 : decode cX6_best 70 = .ok (.invokevirtual 231, 3) := by decide +kernel
theorem dX6_best_73 : decode cX6_best 73 = .ok (.aload_n 0, 1) := by decide +kernel
theorem dX6_best_74 : decode cX6_best 74 = .ok (.getfield 31, 3) := by decide +kernel
theorem dX6_best_77 : decode cX6_best 77 = .ok (.invokestatic 162, 3) := by decide +kernel
theorem dX6_best_80 : decode cX6_best 80 = .ok (.istore 7, 2) := by decide +kernel
theorem dX6_best_82 : decode cX6_best 82 = .ok (.iload_n 3, 1) := by decide +kernel
theorem dX6_best_83 : decode cX6_best 83 = .ok (.iconst (-1), 1) := by decide +kernel
theorem dX6_best_84 : decode cX6_best 84 = .ok (.if_icmp .eq 10, 3) := by decide +kernel
theorem dX6_best_87 : decode cX6_best 87 = .ok (.iload 7, 2) := by decide +kernel
theorem dX6_best_89 : decode cX6_best 89 = .ok (.iload 4, 2) := by decide +kernel
theorem dX6_best_91 : decode cX6_best 91 = .ok (.if_icmp .ge 10, 3) := by decide +kernel
theorem dX6_best_94 : decode cX6_best 94 = .ok (.iload 7, 2) := by decide +kernel
theorem dX6_best_96 : decode cX6_best 96 = .ok (.istore 4, 2) := by decide +kernel
theorem dX6_best_98 : decode cX6_best 98 = .ok (.iload 5, 2) := by decide +kernel
theorem dX6_best_100 : decode cX6_best 100 = .ok (.istore_n 3, 1) := by decide +kernel
theorem dX6_best_101 : decode cX6_best 101 = .ok (.iinc 5 1, 3) := by decide +kernel
theorem dX6_best_104 : decode cX6_best 104 = .ok (.goto (-87), 3) := by decide +kernel
theorem dX6_best_107 : decode cX6_best 107 = .ok (.iload_n 3, 1) := by decide +kernel
theorem dX6_best_108 : decode cX6_best 108 = .ok (.ireturn, 1) := by decide +kernel
theorem dX6_riffle_0 : decode cX6_riffle 0 = .ok (.aload_n 0, 1) := by decide +kernel
theorem dX6_riffle_1 : decode cX6_riffle 1 = .ok (.iload_n 1, 1) := by decide +kernel
theorem dX6_riffle_2 : decode cX6_riffle 2 = .ok (.invokevirtual 60, 3) := by decide +kernel
theorem dX6_riffle_5 : decode cX6_riffle 5 = .ok (.invokevirtual 64, 3) := by decide +kernel
theorem dX6_riffle_8 : decode cX6_riffle 8 = .ok (.astore_n 2, 1) := by decide +kernel
theorem dX6_riffle_9 : decode cX6_riffle 9 = .ok (.aload_n 2, 1) := by decide +kernel
theorem dX6_riffle_10 : decode cX6_riffle 10 = .ok (.invokevirtual 68, 3) := by decide +kernel
theorem dX6_riffle_13 : decode cX6_riffle 13 = .ok (.istore_n 3, 1) := by decide +kernel
theorem dX6_riffle_14 : decode cX6_riffle 14 = .ok (.iload_n 3, 1) := by decide +kernel
theorem dX6_riffle_15 : decode cX6_riffle 15 = .ok (.ifCond .lt 48, 3) := by decide +kernel
theorem dX6_riffle_18 : decode cX6_riffle 18 = .ok (.aload_n 2, 1) := by decide +kernel
theorem dX6_riffle_19 : decode cX6_riffle 19 = .ok (.iload_n 3, 1) := by decide +kernel
theorem dX6_riffle_20 : decode cX6_riffle 20 = .ok (.invokestatic 234, 3) := by decide +kernel
theorem dX6_riffle_23 : decode cX6_riffle 23 = .ok (.istore 4, 2) := by decide +kernel
theorem dX6_riffle_25 : decode cX6_riffle 25 = .ok (.aload_n 0, 1) := by decide +kernel
theorem dX6_riffle_26 : decode cX6_riffle 26 = .ok (.getfield 24, 3) := by decide +kernel
theorem dX6_riffle_29 : decode cX6_riffle 29 = .ok (.bipush 8, 2) := by decide +kernel
theorem dX6_riffle_31 : decode cX6_riffle 31 = .ok (.iload 4, 2) := by decide +kernel
theorem dX6_riffle_33 : decode cX6_riffle 33 = .ok (.aload_n 2, 1) := by decide +kernel
theorem dX6_riffle_34 : decode cX6_riffle 34 = .ok (.invokevirtual 68, 3) := by decide +kernel
theorem dX6_riffle_37 : decode cX6_riffle 37 = .ok (.invokestatic 72, 3) := by decide +kernel
theorem dX6_riffle_40 : decode cX6_riffle 40 = .ok (.ifCond .eq 17, 3) := by decide +kernel
theorem dX6_riffle_43 : decode cX6_riffle 43 = .ok (.aload_n 0, 1) := by decide +kernel
theorem dX6_riffle_44 : decode cX6_riffle 44 = .ok (.getfield 24, 3) := by decide +kernel
theorem dX6_riffle_47 : decode cX6_riffle 47 = .ok (.aload_n 2, 1) := by decide +kernel
theorem dX6_riffle_48 : decode cX6_riffle 48 = .ok (.invokevirtual 238, 3) := by decide +kernel
theorem dX6_riffle_51 : decode cX6_riffle 51 = .ok (.ifCond .eq 6, 3) := by decide +kernel
theorem dX6_riffle_54 : decode cX6_riffle 54 = .ok (.iload 4, 2) := by decide +kernel
theorem dX6_riffle_56 : decode cX6_riffle 56 = .ok (.ireturn, 1) := by decide +kernel
theorem dX6_riffle_57 : decode cX6_riffle 57 = .ok (.iinc 3 (-1), 3) := by decide +kernel
theorem dX6_riffle_60 : decode cX6_riffle 60 = .ok (.goto (-46), 3) := by decide +kernel
theorem dX6_riffle_63 : decode cX6_riffle 63 = .ok (.iconst (-1), 1) := by decide +kernel
theorem dX6_riffle_64 : decode cX6_riffle 64 = .ok (.ireturn, 1) := by decide +kernel
theorem dX6_digest_0 : decode cX6_digest 0 = .ok (.ldc2_w 241, 3) := by decide +kernel
theorem dX6_digest_3 : decode cX6_digest 3 = .ok (.lstore_n 1, 1) := by decide +kernel
theorem dX6_digest_4 : decode cX6_digest 4 = .ok (.iconst 0, 1) := by decide +kernel
theorem dX6_digest_5 : decode cX6_digest 5 = .ok (.istore_n 3, 1) := by decide +kernel
theorem dX6_digest_6 : decode cX6_digest 6 = .ok (.iload_n 3, 1) := by decide +kernel
theorem dX6_digest_7 : decode cX6_digest 7 = .ok (.iconst 5, 1) := by decide +kernel
theorem dX6_digest_8 : decode cX6_digest 8 = .ok (.if_icmp .gt 19, 3) := by decide +kernel
theorem dX6_digest_11 : decode cX6_digest 11 = .ok (.lload_n 1, 1) := by decide +kernel
theorem dX6_digest_12 : decode cX6_digest 12 = .ok (.aload_n 0, 1) := by decide +kernel
theorem dX6_digest_13 : decode cX6_digest 13 = .ok (.iload_n 3, 1) := by decide +kernel
theorem dX6_digest_14 : decode cX6_digest 14 = .ok (.invokevirtual 243, 3) := by decide +kernel
theorem dX6_digest_17 : decode cX6_digest 17 = .ok (.invokestatic 246, 3) := by decide +kernel
theorem dX6_digest_20 : decode cX6_digest 20 = .ok (.lstore_n 1, 1) := by decide +kernel
theorem dX6_digest_21 : decode cX6_digest 21 = .ok (.iinc 3 1, 3) := by decide +kernel
theorem dX6_digest_24 : decode cX6_digest 24 = .ok (.goto (-18), 3) := by decide +kernel
theorem dX6_digest_27 : decode cX6_digest 27 = .ok (.iconst 0, 1) := by decide +kernel
theorem dX6_digest_28 : decode cX6_digest 28 = .ok (.istore_n 3, 1) := by decide +kernel
theorem dX6_digest_29 : decode cX6_digest 29 = .ok (.iload_n 3, 1) := by decide +kernel
theorem dX6_digest_30 : decode cX6_digest 30 = .ok (.aload_n 0, 1) := by decide +kernel
theorem dX6_digest_31 : decode cX6_digest 31 = .ok (.getfield 47, 3) := by decide +kernel
theorem dX6_digest_34 : decode cX6_digest 34 = .ok (.if_icmp .ge 16, 3) := by decide +kernel
theorem dX6_digest_37 : decode cX6_digest 37 = .ok (.aload_n 0, 1) := by decide +kernel
theorem dX6_digest_38 : decode cX6_digest 38 = .ok (.lload_n 1, 1) := by decide +kernel
theorem dX6_digest_39 : decode cX6_digest 39 = .ok (.iload_n 3, 1) := by decide +kernel
theorem dX6_digest_40 : decode cX6_digest 40 = .ok (.invokevirtual 250, 3) := by decide +kernel
theorem dX6_digest_43 : decode cX6_digest 43 = .ok (.lstore_n 1, 1) := by decide +kernel
theorem dX6_digest_44 : decode cX6_digest 44 = .ok (.iinc 3 1, 3) := by decide +kernel
theorem dX6_digest_47 : decode cX6_digest 47 = .ok (.goto (-18), 3) := by decide +kernel
theorem dX6_digest_50 : decode cX6_digest 50 = .ok (.iconst 0, 1) := by decide +kernel
theorem dX6_digest_51 : decode cX6_digest 51 = .ok (.istore_n 3, 1) := by decide +kernel
theorem dX6_digest_52 : decode cX6_digest 52 = .ok (.iload_n 3, 1) := by decide +kernel
theorem dX6_digest_53 : decode cX6_digest 53 = .ok (.aload_n 0, 1) := by decide +kernel
theorem dX6_digest_54 : decode cX6_digest 54 = .ok (.getfield 107, 3) := by decide +kernel
theorem dX6_digest_57 : decode cX6_digest 57 = .ok (.if_icmp .ge 32, 3) := by decide +kernel
theorem dX6_digest_60 : decode cX6_digest 60 = .ok (.lload_n 1, 1) := by decide +kernel
theorem dX6_digest_61 : decode cX6_digest 61 = .ok (.aload_n 0, 1) := by decide +kernel
theorem dX6_digest_62 : decode cX6_digest 62 = .ok (.iload_n 3, 1) := by decide +kernel
theorem dX6_digest_63 : decode cX6_digest 63 = .ok (.iconst 0, 1) := by decide +kernel
theorem dX6_digest_64 : decode cX6_digest 64 = .ok (.invokevirtual 253, 3) := by decide +kernel
theorem dX6_digest_67 : decode cX6_digest 67 = .ok (.invokestatic 246, 3) := by decide +kernel
theorem dX6_digest_70 : decode cX6_digest 70 = .ok (.lstore_n 1, 1) := by decide +kernel
theorem dX6_digest_71 : decode cX6_digest 71 = .ok (.lload_n 1, 1) := by decide +kernel
theorem dX6_digest_72 : decode cX6_digest 72 = .ok (.aload_n 0, 1) := by decide +kernel
theorem dX6_digest_73 : decode cX6_digest 73 = .ok (.iload_n 3, 1) := by decide +kernel
theorem dX6_digest_74 : decode cX6_digest 74 = .ok (.bipush 8, 2) := by decide +kernel
theorem dX6_digest_76 : decode cX6_digest 76 = .ok (.invokevirtual 256, 3) := by decide +kernel
theorem dX6_digest_79 : decode cX6_digest 79 = .ok (.invokestatic 246, 3) := by decide +kernel
theorem dX6_digest_82 : decode cX6_digest 82 = .ok (.lstore_n 1, 1) := by decide +kernel
theorem dX6_digest_83 : decode cX6_digest 83 = .ok (.iinc 3 1, 3) := by decide +kernel
theorem dX6_digest_86 : decode cX6_digest 86 = .ok (.goto (-34), 3) := by decide +kernel
theorem dX6_digest_89 : decode cX6_digest 89 = .ok (.lload_n 1, 1) := by decide +kernel
theorem dX6_digest_90 : decode cX6_digest 90 = .ok (.lreturn, 1) := by decide +kernel
theorem dX6_mixedDeck_0 : decode cX6_mixedDeck 0 = .ok (.lload_n 1, 1) := by decide +kernel
theorem dX6_mixedDeck_1 : decode cX6_mixedDeck 1 = .ok (.lstore 4, 2) := by decide +kernel
theorem dX6_mixedDeck_3 : decode cX6_mixedDeck 3 = .ok (.iconst 0, 1) := by decide +kernel
theorem dX6_mixedDeck_4 : decode cX6_mixedDeck 4 = .ok (.istore 6, 2) := by decide +kernel
theorem dX6_mixedDeck_6 : decode cX6_mixedDeck 6 = .ok (.iload 6, 2) := by decide +kernel
theorem dX6_mixedDeck_8 : decode cX6_mixedDeck 8 = .ok (.bipush 10, 2) := by decide +kernel
theorem dX6_mixedDeck_10 : decode cX6_mixedDeck 10 = .ok (.if_icmp .gt 23, 3) := by decide +kernel
theorem dX6_mixedDeck_13 : decode cX6_mixedDeck 13 = .ok (.lload 4, 2) := by decide +kernel
theorem dX6_mixedDeck_15 : decode cX6_mixedDeck 15 = .ok (.aload_n 0, 1) := by decide +kernel
theorem dX6_mixedDeck_16 : decode cX6_mixedDeck 16 = .ok (.iload_n 3, 1) := by decide +kernel
theorem dX6_mixedDeck_17 : decode cX6_mixedDeck 17 = .ok (.iload 6, 2) := by decide +kernel
theorem dX6_mixedDeck_19 : decode cX6_mixedDeck 19 = .ok (.invokevirtual 259, 3) := by decide +kernel
theorem dX6_mixedDeck_22 : decode cX6_mixedDeck 22 = .ok (.invokestatic 246, 3) := by decide +kernel
theorem dX6_mixedDeck_25 : decode cX6_mixedDeck 25 = .ok (.lstore 4, 2) := by decide +kernel
theorem dX6_mixedDeck_27 : decode cX6_mixedDeck 27 = .ok (.iinc 6 1, 3) := by decide +kernel
theorem dX6_mixedDeck_30 : decode cX6_mixedDeck 30 = .ok (.goto (-24), 3) := by decide +kernel
theorem dX6_mixedDeck_33 : decode cX6_mixedDeck 33 = .ok (.iconst 0, 1) := by decide +kernel
theorem dX6_mixedDeck_34 : decode cX6_mixedDeck 34 = .ok (.istore 6, 2) := by decide +kernel
theorem dX6_mixedDeck_36 : decode cX6_mixedDeck 36 = .ok (.iload 6, 2) := by decide +kernel
theorem dX6_mixedDeck_38 : decode cX6_mixedDeck 38 = .ok (.iconst 5, 1) := by decide +kernel
theorem dX6_mixedDeck_39 : decode cX6_mixedDeck 39 = .ok (.if_icmp .gt 31, 3) := by decide +kernel
theorem dX6_mixedDeck_42 : decode cX6_mixedDeck 42 = .ok (.lload 4, 2) := by decide +kernel
theorem dX6_mixedDeck_44 : decode cX6_mixedDeck 44 = .ok (.aload_n 0, 1) := by decide +kernel
theorem dX6_mixedDeck_45 : decode cX6_mixedDeck 45 = .ok (.iload_n 3, 1) := by decide +kernel
theorem dX6_mixedDeck_46 : decode cX6_mixedDeck 46 = .ok (.iload 6, 2) := by decide +kernel
theorem dX6_mixedDeck_48 : decode cX6_mixedDeck 48 = .ok (.invokevirtual 262, 3) := by decide +kernel
theorem dX6_mixedDeck_51 : decode cX6_mixedDeck 51 = .ok (.ifCond .eq 7, 3) := by decide +kernel
theorem dX6_mixedDeck_54 : decode cX6_mixedDeck 54 = .ok (.iconst 1, 1) := by decide +kernel
theorem dX6_mixedDeck_55 : decode cX6_mixedDeck 55 = .ok (.goto 4, 3) := by decide +kernel
theorem dX6_mixedDeck_58 : decode cX6_mixedDeck 58 = .ok (.iconst 0, 1) := by decide +kernel
theorem dX6_mixedDeck_59 : decode cX6_mixedDeck 59 = .ok (.invokestatic 246, 3) := by decide +kernel
theorem dX6_mixedDeck_62 : decode cX6_mixedDeck 62 = .ok (.lstore 4, 2) := by decide +kernel
theorem dX6_mixedDeck_64 : decode cX6_mixedDeck 64 = .ok (.iinc 6 1, 3) := by decide +kernel
theorem dX6_mixedDeck_67 : decode cX6_mixedDeck 67 = .ok (.goto (-31), 3) := by decide +kernel
theorem dX6_mixedDeck_70 : decode cX6_mixedDeck 70 = .ok (.aload_n 0, 1) := by decide +kernel
theorem dX6_mixedDeck_71 : decode cX6_mixedDeck 71 = .ok (.iload_n 3, 1) := by decide +kernel
theorem dX6_mixedDeck_72 : decode cX6_mixedDeck 72 = .ok (.iconst 0, 1) := by decide +kernel
theorem dX6_mixedDeck_73 : decode cX6_mixedDeck 73 = .ok (.invokevirtual 259, 3) := by decide +kernel
theorem dX6_mixedDeck_76 : decode cX6_mixedDeck 76 = .ok (.istore 6, 2) := by decide +kernel
theorem dX6_mixedDeck_78 : decode cX6_mixedDeck 78 = .ok (.iconst 0, 1) := by decide +kernel
theorem dX6_mixedDeck_79 : decode cX6_mixedDeck 79 = .ok (.istore 7, 2) := by decide +kernel
theorem dX6_mixedDeck_81 : decode cX6_mixedDeck 81 = .ok (.iload 7, 2) := by decide +kernel
theorem dX6_mixedDeck_83 : decode cX6_mixedDeck 83 = .ok (.iload 6, 2) := by decide +kernel
theorem dX6_mixedDeck_85 : decode cX6_mixedDeck 85 = .ok (.if_icmp .ge 56, 3) := by decide +kernel
theorem dX6_mixedDeck_88 : decode cX6_mixedDeck 88 = .ok (.aload_n 0, 1) := by decide +kernel
theorem dX6_mixedDeck_89 : decode cX6_mixedDeck 89 = .ok (.iload_n 3, 1) := by decide +kernel
theorem dX6_mixedDeck_90 : decode cX6_mixedDeck 90 = .ok (.iload 7, 2) := by decide +kernel
theorem dX6_mixedDeck_92 : decode cX6_mixedDeck 92 = .ok (.invokevirtual 266, 3) := by decide +kernel
theorem dX6_mixedDeck_95 : decode cX6_mixedDeck 95 = .ok (.istore 8, 2) := by decide +kernel
theorem dX6_mixedDeck_97 : decode cX6_mixedDeck 97 = .ok (.lload 4, 2) := by decide +kernel
theorem dX6_mixedDeck_99 : decode cX6_mixedDeck 99 = .ok (.iload 8, 2) := by decide +kernel
theorem dX6_mixedDeck_101 : decode cX6_mixedDeck 101 = .ok (.invokestatic 246, 3) := by decide +kernel
theorem dX6_mixedDeck_104 : decode cX6_mixedDeck 104 = .ok (.lstore 4, 2) := by decide +kernel
theorem dX6_mixedDeck_106 : decode cX6_mixedDeck 106 = .ok (.lload 4, 2) := by decide +kernel
theorem dX6_mixedDeck_108 : decode cX6_mixedDeck 108 = .ok (.aload_n 0, 1) := by decide +kernel
theorem dX6_mixedDeck_109 : decode cX6_mixedDeck 109 = .ok (.iload_n 3, 1) := by decide +kernel
theorem dX6_mixedDeck_110 : decode cX6_mixedDeck 110 = .ok (.iload 8, 2) := by decide +kernel
theorem dX6_mixedDeck_112 : decode cX6_mixedDeck 112 = .ok (.iconst 1, 1) := by decide +kernel
theorem dX6_mixedDeck_113 : decode cX6_mixedDeck 113 = .ok (.invokevirtual 269, 3) := by decide +kernel
theorem dX6_mixedDeck_116 : decode cX6_mixedDeck 116 = .ok (.invokestatic 246, 3) := by decide +kernel
theorem dX6_mixedDeck_119 : decode cX6_mixedDeck 119 = .ok (.lstore 4, 2) := by decide +kernel
theorem dX6_mixedDeck_121 : decode cX6_mixedDeck 121 = .ok (.lload 4, 2) := by decide +kernel
theorem dX6_mixedDeck_123 : decode cX6_mixedDeck 123 = .ok (.aload_n 0, 1) := by decide +kernel
theorem dX6_mixedDeck_124 : decode cX6_mixedDeck 124 = .ok (.iload_n 3, 1) := by decide +kernel
theorem dX6_mixedDeck_125 : decode cX6_mixedDeck 125 = .ok (.iload 7, 2) := by decide +kernel
theorem dX6_mixedDeck_127 : decode cX6_mixedDeck 127 = .ok (.invokevirtual 273, 3) := by decide +kernel
theorem dX6_mixedDeck_130 : decode cX6_mixedDeck 130 = .ok (.invokestatic 246, 3) := by decide +kernel
theorem dX6_mixedDeck_133 : decode cX6_mixedDeck 133 = .ok (.lstore 4, 2) := by decide +kernel
theorem dX6_mixedDeck_135 : decode cX6_mixedDeck 135 = .ok (.iinc 7 1, 3) := by decide +kernel
theorem dX6_mixedDeck_138 : decode cX6_mixedDeck 138 = .ok (.goto (-57), 3) := by decide +kernel
theorem dX6_mixedDeck_141 : decode cX6_mixedDeck 141 = .ok (.lload 4, 2) := by decide +kernel
theorem dX6_mixedDeck_143 : decode cX6_mixedDeck 143 = .ok (.aload_n 0, 1) := by decide +kernel
theorem dX6_mixedDeck_144 : decode cX6_mixedDeck 144 = .ok (.iload_n 3, 1) := by decide +kernel
theorem dX6_mixedDeck_145 : decode cX6_mixedDeck 145 = .ok (.invokevirtual 276, 3) := by decide +kernel
theorem dX6_mixedDeck_148 : decode cX6_mixedDeck 148 = .ok (.invokestatic 246, 3) := by decide +kernel
theorem dX6_mixedDeck_151 : decode cX6_mixedDeck 151 = .ok (.lstore 4, 2) := by decide +kernel
theorem dX6_mixedDeck_153 : decode cX6_mixedDeck 153 = .ok (.lload 4, 2) := by decide +kernel
theorem dX6_mixedDeck_155 : decode cX6_mixedDeck 155 = .ok (.aload_n 0, 1) := by decide +kernel
theorem dX6_mixedDeck_156 : decode cX6_mixedDeck 156 = .ok (.iload_n 3, 1) := by decide +kernel
theorem dX6_mixedDeck_157 : decode cX6_mixedDeck 157 = .ok (.invokevirtual 279, 3) := by decide +kernel
theorem dX6_mixedDeck_160 : decode cX6_mixedDeck 160 = .ok (.invokestatic 246, 3) := by decide +kernel
theorem dX6_mixedDeck_163 : decode cX6_mixedDeck 163 = .ok (.lstore 4, 2) := by decide +kernel
theorem dX6_mixedDeck_165 : decode cX6_mixedDeck 165 = .ok (.lload 4, 2) := by decide +kernel
theorem dX6_mixedDeck_167 : decode cX6_mixedDeck 167 = .ok (.aload_n 0, 1) := by decide +kernel
theorem dX6_mixedDeck_168 : decode cX6_mixedDeck 168 = .ok (.iload_n 3, 1) := by decide +kernel
theorem dX6_mixedDeck_169 : decode cX6_mixedDeck 169 = .ok (.iconst 0, 1) := by decide +kernel
theorem dX6_mixedDeck_170 : decode cX6_mixedDeck 170 = .ok (.invokevirtual 282, 3) := by decide +kernel
theorem dX6_mixedDeck_173 : decode cX6_mixedDeck 173 = .ok (.invokestatic 246, 3) := by decide +kernel
theorem dX6_mixedDeck_176 : decode cX6_mixedDeck 176 = .ok (.lreturn, 1) := by decide +kernel
theorem dX6_mixed_0 : decode cX6_mixed 0 = .ok (.lload_n 0, 1) := by decide +kernel
theorem dX6_mixed_1 : decode cX6_mixed 1 = .ok (.ldc2_w 285, 3) := by decide +kernel
theorem dX6_mixed_4 : decode cX6_mixed 4 = .ok (.lmul, 1) := by decide +kernel
theorem dX6_mixed_5 : decode cX6_mixed 5 = .ok (.iload_n 2, 1) := by decide +kernel
theorem dX6_mixed_6 : decode cX6_mixed 6 = .ok (.i2l, 1) := by decide +kernel
theorem dX6_mixed_7 : decode cX6_mixed 7 = .ok (.ladd, 1) := by decide +kernel
theorem dX6_mixed_8 : decode cX6_mixed 8 = .ok (.lreturn, 1) := by decide +kernel
theorem dX6_needDeck_0 : decode cX6_needDeck 0 = .ok (.iload_n 1, 1) := by decide +kernel
theorem dX6_needDeck_1 : decode cX6_needDeck 1 = .ok (.ifCond .lt 20, 3) := by decide +kernel
theorem dX6_needDeck_4 : decode cX6_needDeck 4 = .ok (.iload_n 1, 1) := by decide +kernel
theorem dX6_needDeck_5 : decode cX6_needDeck 5 = .ok (.aload_n 0, 1) := by decide +kernel
theorem dX6_needDeck_6 : decode cX6_needDeck 6 = .ok (.getfield 47, 3) := by decide +kernel
theorem dX6_needDeck_9 : decode cX6_needDeck 9 = .ok (.if_icmp .ge 12, 3) := by decide +kernel
theorem dX6_needDeck_12 : decode cX6_needDeck 12 = .ok (.iload_n 1, 1) := by decide +kernel
theorem dX6_needDeck_13 : decode cX6_needDeck 13 = .ok (.aload_n 0, 1) := by decide +kernel
theorem dX6_needDeck_14 : decode cX6_needDeck 14 = .ok (.getfield 11, 3) := by decide +kernel
theorem dX6_needDeck_17 : decode cX6_needDeck 17 = .ok (.arraylength, 1) := by decide +kernel
theorem dX6_needDeck_18 : decode cX6_needDeck 18 = .ok (.if_icmp .lt 14, 3) := by decide +kernel
theorem dX6_needDeck_21 : decode cX6_needDeck 21 = .ok (.new 139, 3) := by decide +kernel
theorem dX6_needDeck_24 : decode cX6_needDeck 24 = .ok (.dup, 1) := by decide +kernel
theorem dX6_needDeck_25 : decode cX6_needDeck 25 = .ok (.ldc_w 287, 3) := by decide +kernel
theorem dX6_needDeck_28 : decode cX6_needDeck 28 = .ok (.invokespecial 143, 3) := by decide +kernel
theorem dX6_needDeck_31 : decode cX6_needDeck 31 = .ok (.athrow, 1) := by decide +kernel
theorem dX6_needDeck_32 : decode cX6_needDeck 32 = .ok (.aload_n 0, 1) := by decide +kernel
theorem dX6_needDeck_33 : decode cX6_needDeck 33 = .ok (.getfield 11, 3) := by decide +kernel
theorem dX6_needDeck_36 : decode cX6_needDeck 36 = .ok (.iload_n 1, 1) := by decide +kernel
theorem dX6_needDeck_37 : decode cX6_needDeck 37 = .ok (.aaload, 1) := by decide +kernel
theorem dX6_needDeck_38 : decode cX6_needDeck 38 = .ok (.areturn, 1) := by decide +kernel
theorem dX6_needSequence_0 : decode cX6_needSequence 0 = .ok (.iload_n 1, 1) := by decide +kernel
theorem dX6_needSequence_1 : decode cX6_needSequence 1 = .ok (.ifCond .lt 20, 3) := by decide +kernel
theorem dX6_needSequence_4 : decode cX6_needSequence 4 = .ok (.iload_n 1, 1) := by decide +kernel
theorem dX6_needSequence_5 : decode cX6_needSequence 5 = .ok (.aload_n 0, 1) := by decide +kernel
theorem dX6_needSequence_6 : decode cX6_needSequence 6 = .ok (.getfield 107, 3) := by decide +kernel
theorem dX6_needSequence_9 : decode cX6_needSequence 9 = .ok (.if_icmp .ge 12, 3) := by decide +kernel
theorem dX6_needSequence_12 : decode cX6_needSequence 12 = .ok (.iload_n 1, 1) := by decide +kernel
theorem dX6_needSequence_13 : decode cX6_needSequence 13 = .ok (.aload_n 0, 1) := by decide +kernel
theorem dX6_needSequence_14 : decode cX6_needSequence 14 = .ok (.getfield 17, 3) := by decide +kernel
theorem dX6_needSequence_17 : decode cX6_needSequence 17 = .ok (.arraylength, 1) := by decide +kernel
theorem dX6_needSequence_18 : decode cX6_needSequence 18 = .ok (.if_icmp .lt 14, 3) := by decide +kernel
theorem dX6_needSequence_21 : decode cX6_needSequence 21 = .ok (.new 139, 3) := by decide +kernel
theorem dX6_needSequence_24 : decode cX6_needSequence 24 = .ok (.dup, 1) := by decide +kernel
theorem dX6_needSequence_25 : decode cX6_needSequence 25 = .ok (.ldc_w 289, 3) := by decide +kernel
theorem dX6_needSequence_28 : decode cX6_needSequence 28 = .ok (.invokespecial 143, 3) := by decide +kernel
theorem dX6_needSequence_31 : decode cX6_needSequence 31 = .ok (.athrow, 1) := by decide +kernel
theorem dX6_needSequence_32 : decode cX6_needSequence 32 = .ok (.aload_n 0, 1) := by decide +kernel
theorem dX6_needSequence_33 : decode cX6_needSequence 33 = .ok (.getfield 17, 3) := by decide +kernel
theorem dX6_needSequence_36 : decode cX6_needSequence 36 = .ok (.iload_n 1, 1) := by decide +kernel
theorem dX6_needSequence_37 : decode cX6_needSequence 37 = .ok (.aaload, 1) := by decide +kernel
theorem dX6_needSequence_38 : decode cX6_needSequence 38 = .ok (.areturn, 1) := by decide +kernel
theorem dX6_needPosition_0 : decode cX6_needPosition 0 = .ok (.aload_n 0, 1) := by decide +kernel
theorem dX6_needPosition_1 : decode cX6_needPosition 1 = .ok (.iload_n 1, 1) := by decide +kernel
theorem dX6_needPosition_2 : decode cX6_needPosition 2 = .ok (.invokevirtual 136, 3) := by decide +kernel
theorem dX6_needPosition_5 : decode cX6_needPosition 5 = .ok (.ifCond .ne 14, 3) := by decide +kernel
theorem dX6_needPosition_8 : decode cX6_needPosition 8 = .ok (.new 139, 3) := by decide +kernel
theorem dX6_needPosition_11 : decode cX6_needPosition 11 = .ok (.dup, 1) := by decide +kernel
theorem dX6_needPosition_12 : decode cX6_needPosition 12 = .ok (.ldc_w 291, 3) := by decide +kernel
theorem dX6_needPosition_15 : decode cX6_needPosition 15 = .ok (.invokespecial 143, 3) := by decide +kernel
theorem dX6_needPosition_18 : decode cX6_needPosition 18 = .ok (.athrow, 1) := by decide +kernel
theorem dX6_needPosition_19 : decode cX6_needPosition 19 = .ok (.return_, 1) := by decide +kernel
theorem dX6_needOften_0 : decode cX6_needOften 0 = .ok (.iload_n 0, 1) := by decide +kernel
theorem dX6_needOften_1 : decode cX6_needOften 1 = .ok (.iconst 1, 1) := by decide +kernel
theorem dX6_needOften_2 : decode cX6_needOften 2 = .ok (.ldc_w 293, 3) := by decide +kernel
theorem dX6_needOften_5 : decode cX6_needOften 5 = .ok (.invokestatic 116, 3) := by decide +kernel
theorem dX6_needOften_8 : decode cX6_needOften 8 = .ok (.ifCond .ne 14, 3) := by decide +kernel
theorem dX6_needOften_11 : decode cX6_needOften 11 = .ok (.new 40, 3) := by decide +kernel
theorem dX6_needOften_14 : decode cX6_needOften 14 = .ok (.dup, 1) := by decide +kernel
theorem dX6_needOften_15 : decode cX6_needOften 15 = .ok (.ldc_w 294, 3) := by decide +kernel
theorem dX6_needOften_18 : decode cX6_needOften 18 = .ok (.invokespecial 44, 3) := by decide +kernel
theorem dX6_needOften_21 : decode cX6_needOften 21 = .ok (.athrow, 1) := by decide +kernel
theorem dX6_needOften_22 : decode cX6_needOften 22 = .ok (.return_, 1) := by decide +kernel
theorem dX6_needWhat_0 : decode cX6_needWhat 0 = .ok (.iload_n 0, 1) := by decide +kernel
theorem dX6_needWhat_1 : decode cX6_needWhat 1 = .ok (.iconst 0, 1) := by decide +kernel
theorem dX6_needWhat_2 : decode cX6_needWhat 2 = .ok (.iload_n 1, 1) := by decide +kernel
theorem dX6_needWhat_3 : decode cX6_needWhat 3 = .ok (.invokestatic 116, 3) := by decide +kernel
theorem dX6_needWhat_6 : decode cX6_needWhat 6 = .ok (.ifCond .ne 14, 3) := by decide +kernel
theorem dX6_needWhat_9 : decode cX6_needWhat 9 = .ok (.new 40, 3) := by decide +kernel
theorem dX6_needWhat_12 : decode cX6_needWhat 12 = .ok (.dup, 1) := by decide +kernel
theorem dX6_needWhat_13 : decode cX6_needWhat 13 = .ok (.ldc_w 296, 3) := by decide +kernel
theorem dX6_needWhat_16 : decode cX6_needWhat 16 = .ok (.invokespecial 44, 3) := by decide +kernel
theorem dX6_needWhat_19 : decode cX6_needWhat 19 = .ok (.athrow, 1) := by decide +kernel
theorem dX6_needWhat_20 : decode cX6_needWhat 20 = .ok (.return_, 1) := by decide +kernel
theorem dX6_isDeckSize_0 : decode cX6_isDeckSize 0 = .ok (.iload_n 0, 1) := by decide +kernel
theorem dX6_isDeckSize_1 : decode cX6_isDeckSize 1 = .ok (.iconst 2, 1) := by decide +kernel
theorem dX6_isDeckSize_2 : decode cX6_isDeckSize 2 = .ok (.bipush 16, 2) := by decide +kernel
theorem dX6_isDeckSize_4 : decode cX6_isDeckSize 4 = .ok (.invokestatic 116, 3) := by decide +kernel
theorem dX6_isDeckSize_7 : decode cX6_isDeckSize 7 = .ok (.ireturn, 1) := by decide +kernel
theorem dX6_isWithin_0 : decode cX6_isWithin 0 = .ok (.iload_n 0, 1) := by decide +kernel
theorem dX6_isWithin_1 : decode cX6_isWithin 1 = .ok (.iload_n 1, 1) := by decide +kernel
theorem dX6_isWithin_2 : decode cX6_isWithin 2 = .ok (.if_icmp .lt 12, 3) := by decide +kernel
theorem dX6_isWithin_5 : decode cX6_isWithin 5 = .ok (.iload_n 0, 1) := by decide +kernel
theorem dX6_isWithin_6 : decode cX6_isWithin 6 = .ok (.iload_n 2, 1) := by decide +kernel
theorem dX6_isWithin_7 : decode cX6_isWithin 7 = .ok (.if_icmp .gt 7, 3) := by decide +kernel
theorem dX6_isWithin_10 : decode cX6_isWithin 10 = .ok (.iconst 1, 1) := by decide +kernel
theorem dX6_isWithin_11 : decode cX6_isWithin 11 = .ok (.goto 4, 3) := by decide +kernel
theorem dX6_isWithin_14 : decode cX6_isWithin 14 = .ok (.iconst 0, 1) := by decide +kernel
theorem dX6_isWithin_15 : decode cX6_isWithin 15 = .ok (.ireturn, 1) := by decide +kernel
theorem dX6_shufflesOfAll_0 : decode cX6_shufflesOfAll 0 = .ok (.iconst 0, 1) := by decide +kernel
theorem dX6_shufflesOfAll_1 : decode cX6_shufflesOfAll 1 = .ok (.istore_n 1, 1) := by decide +kernel
theorem dX6_shufflesOfAll_2 : decode cX6_shufflesOfAll 2 = .ok (.iconst 0, 1) := by decide +kernel
theorem dX6_shufflesOfAll_3 : decode cX6_shufflesOfAll 3 = .ok (.istore_n 2, 1) := by decide +kernel
theorem dX6_shufflesOfAll_4 : decode cX6_shufflesOfAll 4 = .ok (.iload_n 2, 1) := by decide +kernel
theorem dX6_shufflesOfAll_5 : decode cX6_shufflesOfAll 5 = .ok (.aload_n 0, 1) := by decide +kernel
theorem dX6_shufflesOfAll_6 : decode cX6_shufflesOfAll 6 = .ok (.getfield 47, 3) := by decide +kernel
theorem dX6_shufflesOfAll_9 : decode cX6_shufflesOfAll 9 = .ok (.if_icmp .ge 21, 3) := by decide +kernel
theorem dX6_shufflesOfAll_12 : decode cX6_shufflesOfAll 12 = .ok (.iload_n 1, 1) := by decide +kernel
theorem dX6_shufflesOfAll_13 : decode cX6_shufflesOfAll 13 = .ok (.aload_n 0, 1) := by decide +kernel
theorem dX6_shufflesOfAll_14 : decode cX6_shufflesOfAll 14 = .ok (.getfield 11, 3) := by decide +kernel
theorem dX6_shufflesOfAll_17 : decode cX6_shufflesOfAll 17 = .ok (.iload_n 2, 1) := by decide +kernel
theorem dX6_shufflesOfAll_18 : decode cX6_shufflesOfAll 18 = .ok (.aaload, 1) := by decide +kernel
theorem dX6_shufflesOfAll_19 : decode cX6_shufflesOfAll 19 = .ok (.invokevirtual 176, 3) := by decide +kernel
theorem dX6_shufflesOfAll_22 : decode cX6_shufflesOfAll 22 = .ok (.iadd, 1) := by decide +kernel
theorem dX6_shufflesOfAll_23 : decode cX6_shufflesOfAll 23 = .ok (.istore_n 1, 1) := by decide +kernel
theorem dX6_shufflesOfAll_24 : decode cX6_shufflesOfAll 24 = .ok (.iinc 2 1, 3) := by decide +kernel
theorem dX6_shufflesOfAll_27 : decode cX6_shufflesOfAll 27 = .ok (.goto (-23), 3) := by decide +kernel
theorem dX6_shufflesOfAll_30 : decode cX6_shufflesOfAll 30 = .ok (.iload_n 1, 1) := by decide +kernel
theorem dX6_shufflesOfAll_31 : decode cX6_shufflesOfAll 31 = .ok (.ireturn, 1) := by decide +kernel
theorem dX6_cardsOfAll_0 : decode cX6_cardsOfAll 0 = .ok (.iconst 0, 1) := by decide +kernel
theorem dX6_cardsOfAll_1 : decode cX6_cardsOfAll 1 = .ok (.istore_n 1, 1) := by decide +kernel
theorem dX6_cardsOfAll_2 : decode cX6_cardsOfAll 2 = .ok (.iconst 0, 1) := by decide +kernel
theorem dX6_cardsOfAll_3 : decode cX6_cardsOfAll 3 = .ok (.istore_n 2, 1) := by decide +kernel
theorem dX6_cardsOfAll_4 : decode cX6_cardsOfAll 4 = .ok (.iload_n 2, 1) := by decide +kernel
theorem dX6_cardsOfAll_5 : decode cX6_cardsOfAll 5 = .ok (.aload_n 0, 1) := by decide +kernel
theorem dX6_cardsOfAll_6 : decode cX6_cardsOfAll 6 = .ok (.getfield 47, 3) := by decide +kernel
theorem dX6_cardsOfAll_9 : decode cX6_cardsOfAll 9 = .ok (.if_icmp .ge 24, 3) := by decide +kernel
theorem dX6_cardsOfAll_12 : decode cX6_cardsOfAll 12 = .ok (.iload_n 1, 1) := by decide +kernel
theorem dX6_cardsOfAll_13 : decode cX6_cardsOfAll 13 = .ok (.aload_n 0, 1) := by decide +kernel
theorem dX6_cardsOfAll_14 : decode cX6_cardsOfAll 14 = .ok (.getfield 11, 3) := by decide +kernel
theorem dX6_cardsOfAll_17 : decode cX6_cardsOfAll 17 = .ok (.iload_n 2, 1) := by decide +kernel
theorem dX6_cardsOfAll_18 : decode cX6_cardsOfAll 18 = .ok (.aaload, 1) := by decide +kernel
theorem dX6_cardsOfAll_19 : decode cX6_cardsOfAll 19 = .ok (.invokevirtual 64, 3) := by decide +kernel
theorem dX6_cardsOfAll_22 : decode cX6_cardsOfAll 22 = .ok (.invokevirtual 68, 3) := by decide +kernel
theorem dX6_cardsOfAll_25 : decode cX6_cardsOfAll 25 = .ok (.iadd, 1) := by decide +kernel
theorem dX6_cardsOfAll_26 : decode cX6_cardsOfAll 26 = .ok (.istore_n 1, 1) := by decide +kernel
theorem dX6_cardsOfAll_27 : decode cX6_cardsOfAll 27 = .ok (.iinc 2 1, 3) := by decide +kernel
theorem dX6_cardsOfAll_30 : decode cX6_cardsOfAll 30 = .ok (.goto (-26), 3) := by decide +kernel
theorem dX6_cardsOfAll_33 : decode cX6_cardsOfAll 33 = .ok (.iload_n 1, 1) := by decide +kernel
theorem dX6_cardsOfAll_34 : decode cX6_cardsOfAll 34 = .ok (.ireturn, 1) := by decide +kernel
theorem dX6_facesUpOfAll_0 : decode cX6_facesUpOfAll 0 = .ok (.iconst 0, 1) := by decide +kernel
theorem dX6_facesUpOfAll_1 : decode cX6_facesUpOfAll 1 = .ok (.istore_n 1, 1) := by decide +kernel
theorem dX6_facesUpOfAll_2 : decode cX6_facesUpOfAll 2 = .ok (.iconst 0, 1) := by decide +kernel
theorem dX6_facesUpOfAll_3 : decode cX6_facesUpOfAll 3 = .ok (.istore_n 2, 1) := by decide +kernel
theorem dX6_facesUpOfAll_4 : decode cX6_facesUpOfAll 4 = .ok (.iload_n 2, 1) := by decide +kernel
theorem dX6_facesUpOfAll_5 : decode cX6_facesUpOfAll 5 = .ok (.aload_n 0, 1) := by decide +kernel
theorem dX6_facesUpOfAll_6 : decode cX6_facesUpOfAll 6 = .ok (.getfield 47, 3) := by decide +kernel
theorem dX6_facesUpOfAll_9 : decode cX6_facesUpOfAll 9 = .ok (.if_icmp .ge 24, 3) := by decide +kernel
theorem dX6_facesUpOfAll_12 : decode cX6_facesUpOfAll 12 = .ok (.iload_n 1, 1) := by decide +kernel
theorem dX6_facesUpOfAll_13 : decode cX6_facesUpOfAll 13 = .ok (.aload_n 0, 1) := by decide +kernel
theorem dX6_facesUpOfAll_14 : decode cX6_facesUpOfAll 14 = .ok (.getfield 11, 3) := by decide +kernel
theorem dX6_facesUpOfAll_17 : decode cX6_facesUpOfAll 17 = .ok (.iload_n 2, 1) := by decide +kernel
theorem dX6_facesUpOfAll_18 : decode cX6_facesUpOfAll 18 = .ok (.aaload, 1) := by decide +kernel
theorem dX6_facesUpOfAll_19 : decode cX6_facesUpOfAll 19 = .ok (.invokevirtual 64, 3) := by decide +kernel
theorem dX6_facesUpOfAll_22 : decode cX6_facesUpOfAll 22 = .ok (.invokestatic 173, 3) := by decide +kernel
theorem dX6_facesUpOfAll_25 : decode cX6_facesUpOfAll 25 = .ok (.iadd, 1) := by decide +kernel
theorem dX6_facesUpOfAll_26 : decode cX6_facesUpOfAll 26 = .ok (.istore_n 1, 1) := by decide +kernel
theorem dX6_facesUpOfAll_27 : decode cX6_facesUpOfAll 27 = .ok (.iinc 2 1, 3) := by decide +kernel
theorem dX6_facesUpOfAll_30 : decode cX6_facesUpOfAll 30 = .ok (.goto (-26), 3) := by decide +kernel
theorem dX6_facesUpOfAll_33 : decode cX6_facesUpOfAll 33 = .ok (.iload_n 1, 1) := by decide +kernel
theorem dX6_facesUpOfAll_34 : decode cX6_facesUpOfAll 34 = .ok (.ireturn, 1) := by decide +kernel
theorem dX6_behindOutOrIn_0 : decode cX6_behindOutOrIn 0 = .ok (.iconst 0, 1) := by decide +kernel
theorem dX6_behindOutOrIn_1 : decode cX6_behindOutOrIn 1 = .ok (.istore_n 2, 1) := by decide +kernel
theorem dX6_behindOutOrIn_2 : decode cX6_behindOutOrIn 2 = .ok (.iconst 0, 1) := by decide +kernel
theorem dX6_behindOutOrIn_3 : decode cX6_behindOutOrIn 3 = .ok (.istore_n 3, 1) := by decide +kernel
theorem dX6_behindOutOrIn_4 : decode cX6_behindOutOrIn 4 = .ok (.iload_n 3, 1) := by decide +kernel
theorem dX6_behindOutOrIn_5 : decode cX6_behindOutOrIn 5 = .ok (.iload_n 1, 1) := by decide +kernel
theorem dX6_behindOutOrIn_6 : decode cX6_behindOutOrIn 6 = .ok (.if_icmp .ge 35, 3) := by decide +kernel
theorem dX6_behindOutOrIn_9 : decode cX6_behindOutOrIn 9 = .ok (.iconst 1, 1) := by decide +kernel
theorem dX6_behindOutOrIn_10 : decode cX6_behindOutOrIn 10 = .ok (.iload_n 3, 1) := by decide +kernel
theorem dX6_behindOutOrIn_11 : decode cX6_behindOutOrIn 11 = .ok (.ishl, 1) := by decide +kernel
theorem dX6_behindOutOrIn_12 : decode cX6_behindOutOrIn 12 = .ok (.iconst 1, 1) := by decide +kernel
theorem dX6_behindOutOrIn_13 : decode cX6_behindOutOrIn 13 = .ok (.iload_n 1, 1) := by decide +kernel
theorem dX6_behindOutOrIn_14 : decode cX6_behindOutOrIn 14 = .ok (.iload_n 3, 1) := by decide +kernel
theorem dX6_behindOutOrIn_15 : decode cX6_behindOutOrIn 15 = .ok (.iadd, 1) := by decide +kernel
theorem dX6_behindOutOrIn_16 : decode cX6_behindOutOrIn 16 = .ok (.ishl, 1) := by decide +kernel
theorem dX6_behindOutOrIn_17 : decode cX6_behindOutOrIn 17 = .ok (.ior, 1) := by decide +kernel
theorem dX6_behindOutOrIn_18 : decode cX6_behindOutOrIn 18 = .ok (.istore 4, 2) := by decide +kernel
theorem dX6_behindOutOrIn_20 : decode cX6_behindOutOrIn 20 = .ok (.iload_n 0, 1) := by decide +kernel
theorem dX6_behindOutOrIn_21 : decode cX6_behindOutOrIn 21 = .ok (.iload 4, 2) := by decide +kernel
theorem dX6_behindOutOrIn_23 : decode cX6_behindOutOrIn 23 = .ok (.iand, 1) := by decide +kernel
theorem dX6_behindOutOrIn_24 : decode cX6_behindOutOrIn 24 = .ok (.ifCond .eq 11, 3) := by decide +kernel
theorem dX6_behindOutOrIn_27 : decode cX6_behindOutOrIn 27 = .ok (.iload_n 2, 1) := by decide +kernel
theorem dX6_behindOutOrIn_28 : decode cX6_behindOutOrIn 28 = .ok (.iconst 3, 1) := by decide +kernel
theorem dX6_behindOutOrIn_29 : decode cX6_behindOutOrIn 29 = .ok (.iconst 2, 1) := by decide +kernel
theorem dX6_behindOutOrIn_30 : decode cX6_behindOutOrIn 30 = .ok (.iload_n 3, 1) := by decide +kernel
theorem dX6_behindOutOrIn_31 : decode cX6_behindOutOrIn 31 = .ok (.imul, 1) := by decide +kernel
theorem dX6_behindOutOrIn_32 : decode cX6_behindOutOrIn 32 = .ok (.ishl, 1) := by decide +kernel
theorem dX6_behindOutOrIn_33 : decode cX6_behindOutOrIn 33 = .ok (.ior, 1) := by decide +kernel
theorem dX6_behindOutOrIn_34 : decode cX6_behindOutOrIn 34 = .ok (.istore_n 2, 1) := by decide +kernel
theorem dX6_behindOutOrIn_35 : decode cX6_behindOutOrIn 35 = .ok (.iinc 3 1, 3) := by decide +kernel
theorem dX6_behindOutOrIn_38 : decode cX6_behindOutOrIn 38 = .ok (.goto (-34), 3) := by decide +kernel
theorem dX6_behindOutOrIn_41 : decode cX6_behindOutOrIn 41 = .ok (.iload_n 2, 1) := by decide +kernel
theorem dX6_behindOutOrIn_42 : decode cX6_behindOutOrIn 42 = .ok (.ireturn, 1) := by decide +kernel
theorem dX7_init_0 : decode cX7_init 0 = .ok (.aload_n 0, 1) := by decide +kernel
theorem dX7_init_1 : decode cX7_init 1 = .ok (.invokespecial 3, 3) := by decide +kernel
theorem dX7_init_4 : decode cX7_init 4 = .ok (.aload_n 0, 1) := by decide +kernel
theorem dX7_init_5 : decode cX7_init 5 = .ok (.new 9, 3) := by decide +kernel
theorem dX7_init_8 : decode cX7_init 8 = .ok (.dup, 1) := by decide +kernel
theorem dX7_init_9 : decode cX7_init 9 = .ok (.invokespecial 11, 3) := by decide +kernel
theorem dX7_init_12 : decode cX7_init 12 = .ok (.putfield 12, 3) := by decide +kernel
theorem dX7_init_15 : decode cX7_init 15 = .ok (.aload_n 0, 1) := by decide +kernel
theorem dX7_init_16 : decode cX7_init 16 = .ok (.new 9, 3) := by decide +kernel
theorem dX7_init_19 : decode cX7_init 19 = .ok (.dup, 1) := by decide +kernel
theorem dX7_init_20 : decode cX7_init 20 = .ok (.invokespecial 11, 3) := by decide +kernel
theorem dX7_init_23 : decode cX7_init 23 = .ok (.putfield 18, 3) := by decide +kernel
theorem dX7_init_26 : decode cX7_init 26 = .ok (.aload_n 0, 1) := by decide +kernel
theorem dX7_init_27 : decode cX7_init 27 = .ok (.iload_n 1, 1) := by decide +kernel
theorem dX7_init_28 : decode cX7_init 28 = .ok (.newarray .int, 2) := by decide +kernel
theorem dX7_init_30 : decode cX7_init 30 = .ok (.putfield 21, 3) := by decide +kernel
theorem dX7_init_33 : decode cX7_init 33 = .ok (.aload_n 0, 1) := by decide +kernel
theorem dX7_init_34 : decode cX7_init 34 = .ok (.iload_n 1, 1) := by decide +kernel
theorem dX7_init_35 : decode cX7_init 35 = .ok (.newarray .boolean, 2) := by decide +kernel
theorem dX7_init_37 : decode cX7_init 37 = .ok (.putfield 25, 3) := by decide +kernel
theorem dX7_init_40 : decode cX7_init 40 = .ok (.iconst 0, 1) := by decide +kernel
theorem dX7_init_41 : decode cX7_init 41 = .ok (.istore_n 2, 1) := by decide +kernel
theorem dX7_init_42 : decode cX7_init 42 = .ok (.iload_n 2, 1) := by decide +kernel
theorem dX7_init_43 : decode cX7_init 43 = .ok (.iload_n 1, 1) := by decide +kernel
theorem dX7_init_44 : decode cX7_init 44 = .ok (.if_icmp .ge 16, 3) := by decide +kernel
theorem dX7_init_47 : decode cX7_init 47 = .ok (.aload_n 0, 1) := by decide +kernel
theorem dX7_init_48 : decode cX7_init 48 = .ok (.getfield 21, 3) := by decide +kernel
theorem dX7_init_51 : decode cX7_init 51 = .ok (.iload_n 2, 1) := by decide +kernel
theorem dX7_init_52 : decode cX7_init 52 = .ok (.iload_n 2, 1) := by decide +kernel
theorem dX7_init_53 : decode cX7_init 53 = .ok (.iastore, 1) := by decide +kernel
theorem dX7_init_54 : decode cX7_init 54 = .ok (.iinc 2 1, 3) := by decide +kernel
theorem dX7_init_57 : decode cX7_init 57 = .ok (.goto (-15), 3) := by decide +kernel
theorem dX7_init_60 : decode cX7_init 60 = .ok (.return_, 1) := by decide +kernel
theorem dX7_size_0 : decode cX7_size 0 = .ok (.aload_n 0, 1) := by decide +kernel
theorem dX7_size_1 : decode cX7_size 1 = .ok (.getfield 21, 3) := by decide +kernel
theorem dX7_size_4 : decode cX7_size 4 = .ok (.arraylength, 1) := by decide +kernel
theorem dX7_size_5 : decode cX7_size 5 = .ok (.ireturn, 1) := by decide +kernel
theorem dX7_go_0 : decode cX7_go 0 = .ok (.aload_n 0, 1) := by decide +kernel
theorem dX7_go_1 : decode cX7_go 1 = .ok (.invokevirtual 29, 3) := by decide +kernel
theorem dX7_go_4 : decode cX7_go 4 = .ok (.istore_n 2, 1) := by decide +kernel
theorem dX7_go_5 : decode cX7_go 5 = .ok (.aload_n 0, 1) := by decide +kernel
theorem dX7_go_6 : decode cX7_go 6 = .ok (.getfield 12, 3) := by decide +kernel
theorem dX7_go_9 : decode cX7_go 9 = .ok (.invokevirtual 33, 3) := by decide +kernel
theorem dX7_go_12 : decode cX7_go 12 = .ok (.bipush 40, 2) := by decide +kernel
theorem dX7_go_14 : decode cX7_go 14 = .ok (.if_icmp .ne 21, 3) := by decide +kernel
theorem dX7_go_17 : decode cX7_go 17 = .ok (.aload_n 0, 1) := by decide +kernel
theorem dX7_go_18 : decode cX7_go 18 = .ok (.getfield 12, 3) := by decide +kernel
theorem dX7_go_21 : decode cX7_go 21 = .ok (.iconst 0, 1) := by decide +kernel
theorem dX7_go_22 : decode cX7_go 22 = .ok (.invokevirtual 34, 3) := by decide +kernel
theorem dX7_go_25 : decode cX7_go 25 = .ok (.pop, 1) := by decide +kernel
theorem dX7_go_26 : decode cX7_go 26 = .ok (.aload_n 0, 1) := by decide +kernel
theorem dX7_go_27 : decode cX7_go 27 = .ok (.getfield 18, 3) := by decide +kernel
theorem dX7_go_30 : decode cX7_go 30 = .ok (.iconst 0, 1) := by decide +kernel
theorem dX7_go_31 : decode cX7_go 31 = .ok (.invokevirtual 34, 3) := by decide +kernel
theorem dX7_go_34 : decode cX7_go 34 = .ok (.pop, 1) := by decide +kernel
theorem dX7_go_35 : decode cX7_go 35 = .ok (.aload_n 0, 1) := by decide +kernel
theorem dX7_go_36 : decode cX7_go 36 = .ok (.getfield 12, 3) := by decide +kernel
theorem dX7_go_39 : decode cX7_go 39 = .ok (.aload_n 0, 1) := by decide +kernel
theorem dX7_go_40 : decode cX7_go 40 = .ok (.getfield 21, 3) := by decide +kernel
theorem dX7_go_43 : decode cX7_go 43 = .ok (.invokevirtual 38, 3) := by decide +kernel
theorem dX7_go_46 : decode cX7_go 46 = .ok (.pop, 1) := by decide +kernel
theorem dX7_go_47 : decode cX7_go 47 = .ok (.aload_n 0, 1) := by decide +kernel
theorem dX7_go_48 : decode cX7_go 48 = .ok (.getfield 18, 3) := by decide +kernel
theorem dX7_go_51 : decode cX7_go 51 = .ok (.aload_n 0, 1) := by decide +kernel
theorem dX7_go_52 : decode cX7_go 52 = .ok (.getfield 25, 3) := by decide +kernel
theorem dX7_go_55 : decode cX7_go 55 = .ok (.invokevirtual 38, 3) := by decide +kernel
theorem dX7_go_58 : decode cX7_go 58 = .ok (.pop, 1) := by decide +kernel
theorem dX7_go_59 : decode cX7_go 59 = .ok (.iload_n 2, 1) := by decide +kernel
theorem dX7_go_60 : decode cX7_go 60 = .ok (.newarray .int, 2) := by decide +kernel
theorem dX7_go_62 : decode cX7_go 62 = .ok (.astore_n 3, 1) := by decide +kernel
theorem dX7_go_63 : decode cX7_go 63 = .ok (.iload_n 2, 1) := by decide +kernel
theorem dX7_go_64 : decode cX7_go 64 = .ok (.newarray .boolean, 2) := by decide +kernel
theorem dX7_go_66 : decode cX7_go 66 = .ok (.astore 4, 2) := by decide +kernel
theorem dX7_go_68 : decode cX7_go 68 = .ok (.iconst 0, 1) := by decide +kernel
theorem dX7_go_69 : decode cX7_go 69 = .ok (.istore 5, 2) := by decide +kernel
theorem dX7_go_71 : decode cX7_go 71 = .ok (.iload 5, 2) := by decide +kernel
theorem dX7_go_73 : decode cX7_go 73 = .ok (.iload_n 2, 1) := by decide +kernel
theorem dX7_go_74 : decode cX7_go 74 = .ok (.if_icmp .ge 57, 3) := by decide +kernel
theorem dX7_go_77 : decode cX7_go 77 = .ok (.aload_n 3, 1) := by decide +kernel
theorem dX7_go_78 : decode cX7_go 78 = .ok (.iload 5, 2) := by decide +kernel
theorem dX7_go_80 : decode cX7_go 80 = .ok (.aload_n 0, 1) := by decide +kernel
theorem dX7_go_81 : decode cX7_go 81 = .ok (.getfield 21, 3) := by decide +kernel
theorem dX7_go_84 : decode cX7_go 84 = .ok (.aload_n 1, 1) := by decide +kernel
theorem dX7_go_85 : decode cX7_go 85 = .ok (.getfield 42, 3) := by decide +kernel
theorem dX7_go_88 : decode cX7_go 88 = .ok (.iload 5, 2) := by decide +kernel
theorem dX7_go_90 : decode cX7_go 90 = .ok (.iaload, 1) := by decide +kernel
theorem dX7_go_91 : decode cX7_go 91 = .ok (.iaload, 1) := by decide +kernel
theorem dX7_go_92 : decode cX7_go 92 = .ok (.iastore, 1) := by decide +kernel
theorem dX7_go_93 : decode cX7_go 93 = .ok (.aload 4, 2) := by decide +kernel
theorem dX7_go_95 : decode cX7_go 95 = .ok (.iload 5, 2) := by decide +kernel
theorem dX7_go_97 : decode cX7_go 97 = .ok (.aload_n 0, 1) := by decide +kernel
theorem dX7_go_98 : decode cX7_go 98 = .ok (.getfield 25, 3) := by decide +kernel
theorem dX7_go_101 : decode cX7_go 101 = .ok (.aload_n 1, 1) := by decide +kernel
theorem dX7_go_102 : decode cX7_go 102 = .ok (.getfield 42, 3) := by decide +kernel
theorem dX7_go_105 : decode cX7_go 105 = .ok (.iload 5, 2) := by decide +kernel
theorem dX7_go_107 : decode cX7_go 107 = .ok (.iaload, 1) := by decide +kernel
theorem dX7_go_108 : decode cX7_go 108 = .ok (.baload, 1) := by decide +kernel
theorem dX7_go_109 : decode cX7_go 109 = .ok (.aload_n 1, 1) := by decide +kernel
theorem dX7_go_110 : decode cX7_go 110 = .ok (.getfield 47, 3) := by decide +kernel
theorem dX7_go_113 : decode cX7_go 113 = .ok (.iload 5, 2) := by decide +kernel
theorem dX7_go_115 : decode cX7_go 115 = .ok (.baload, 1) := by decide +kernel
theorem dX7_go_116 : decode cX7_go 116 = .ok (.if_icmp .eq 7, 3) := by decide +kernel
theorem dX7_go_119 : decode cX7_go 119 = .ok (.iconst 1, 1) := by decide +kernel
theorem dX7_go_120 : decode cX7_go 120 = .ok (.goto 4, 3) := by decide +kernel
theorem dX7_go_123 : decode cX7_go 123 = .ok (.iconst 0, 1) := by decide +kernel
theorem dX7_go_124 : decode cX7_go 124 = .ok (.bastore, 1) := by decide +kernel
theorem dX7_go_125 : decode cX7_go 125 = .ok (.iinc 5 1, 3) := by decide +kernel
theorem dX7_go_128 : decode cX7_go 128 = .ok (.goto (-57), 3) := by decide +kernel
theorem dX7_go_131 : decode cX7_go 131 = .ok (.aload_n 0, 1) := by decide +kernel
theorem dX7_go_132 : decode cX7_go 132 = .ok (.aload_n 3, 1) := by decide +kernel
theorem dX7_go_133 : decode cX7_go 133 = .ok (.putfield 21, 3) := by decide +kernel
theorem dX7_go_136 : decode cX7_go 136 = .ok (.aload_n 0, 1) := by decide +kernel
theorem dX7_go_137 : decode cX7_go 137 = .ok (.aload 4, 2) := by decide +kernel
theorem dX7_go_139 : decode cX7_go 139 = .ok (.putfield 25, 3) := by decide +kernel
theorem dX7_go_142 : decode cX7_go 142 = .ok (.aload_n 0, 1) := by decide +kernel
theorem dX7_go_143 : decode cX7_go 143 = .ok (.dup, 1) := by decide +kernel
theorem dX7_go_144 : decode cX7_go 144 = .ok (.getfield 50, 3) := by decide +kernel
theorem dX7_go_147 : decode cX7_go 147 = .ok (.iconst 1, 1) := by decide +kernel
theorem dX7_go_148 : decode cX7_go 148 = .ok (.iadd, 1) := by decide +kernel
theorem dX7_go_149 : decode cX7_go 149 = .ok (.putfield 50, 3) := by decide +kernel
theorem dX7_go_152 : decode cX7_go 152 = .ok (.return_, 1) := by decide +kernel
theorem dX7_back_0 : decode cX7_back 0 = .ok (.aload_n 0, 1) := by decide +kernel
theorem dX7_back_1 : decode cX7_back 1 = .ok (.getfield 12, 3) := by decide +kernel
theorem dX7_back_4 : decode cX7_back 4 = .ok (.invokevirtual 33, 3) := by decide +kernel
theorem dX7_back_7 : decode cX7_back 7 = .ok (.iconst 1, 1) := by decide +kernel
theorem dX7_back_8 : decode cX7_back 8 = .ok (.isub, 1) := by decide +kernel
theorem dX7_back_9 : decode cX7_back 9 = .ok (.istore_n 1, 1) := by decide +kernel
theorem dX7_back_10 : decode cX7_back 10 = .ok (.iload_n 1, 1) := by decide +kernel
theorem dX7_back_11 : decode cX7_back 11 = .ok (.ifCond .ge 5, 3) := by decide +kernel
theorem dX7_back_14 : decode cX7_back 14 = .ok (.iconst 0, 1) := by decide +kernel
theorem dX7_back_15 : decode cX7_back 15 = .ok (.ireturn, 1) := by decide +kernel
theorem dX7_back_16 : decode cX7_back 16 = .ok (.aload_n 0, 1) := by decide +kernel
theorem dX7_back_17 : decode cX7_back 17 = .ok (.aload_n 0, 1) := by decide +kernel
theorem dX7_back_18 : decode cX7_back 18 = .ok (.getfield 12, 3) := by decide +kernel
theorem dX7_back_21 : decode cX7_back 21 = .ok (.iload_n 1, 1) := by decide +kernel
theorem dX7_back_22 : decode cX7_back 22 = .ok (.invokevirtual 34, 3) := by decide +kernel
theorem dX7_back_25 : decode cX7_back 25 = .ok (.checkcast 54, 3) := by decide +kernel
theorem dX7_back_28 : decode cX7_back 28 = .ok (.putfield 21, 3) := by decide +kernel
theorem dX7_back_31 : decode cX7_back 31 = .ok (.aload_n 0, 1) := by decide +kernel
theorem dX7_back_32 : decode cX7_back 32 = .ok (.aload_n 0, 1) := by decide +kernel
theorem dX7_back_33 : decode cX7_back 33 = .ok (.getfield 18, 3) := by decide +kernel
theorem dX7_back_36 : decode cX7_back 36 = .ok (.iload_n 1, 1) := by decide +kernel
theorem dX7_back_37 : decode cX7_back 37 = .ok (.invokevirtual 34, 3) := by decide +kernel
theorem dX7_back_40 : decode cX7_back 40 = .ok (.checkcast 55, 3) := by decide +kernel
theorem dX7_back_43 : decode cX7_back 43 = .ok (.putfield 25, 3) := by decide +kernel
theorem dX7_back_46 : decode cX7_back 46 = .ok (.aload_n 0, 1) := by decide +kernel
theorem dX7_back_47 : decode cX7_back 47 = .ok (.dup, 1) := by decide +kernel
theorem dX7_back_48 : decode cX7_back 48 = .ok (.getfield 50, 3) := by decide +kernel
theorem dX7_back_51 : decode cX7_back 51 = .ok (.iconst 1, 1) := by decide +kernel
theorem dX7_back_52 : decode cX7_back 52 = .ok (.isub, 1) := by decide +kernel
theorem dX7_back_53 : decode cX7_back 53 = .ok (.putfield 50, 3) := by decide +kernel
theorem dX7_back_56 : decode cX7_back 56 = .ok (.iconst 1, 1) := by decide +kernel
theorem dX7_back_57 : decode cX7_back 57 = .ok (.ireturn, 1) := by decide +kernel
theorem dX7_find_0 : decode cX7_find 0 = .ok (.iconst 0, 1) := by decide +kernel
theorem dX7_find_1 : decode cX7_find 1 = .ok (.istore_n 2, 1) := by decide +kernel
theorem dX7_find_2 : decode cX7_find 2 = .ok (.aload_n 0, 1) := by decide +kernel
theorem dX7_find_3 : decode cX7_find 3 = .ok (.getfield 21, 3) := by decide +kernel
theorem dX7_find_6 : decode cX7_find 6 = .ok (.iload_n 2, 1) := by decide +kernel
theorem dX7_find_7 : decode cX7_find 7 = .ok (.iaload, 1) := by decide +kernel
theorem dX7_find_8 : decode cX7_find 8 = .ok (.iload_n 1, 1) := by decide +kernel
theorem dX7_find_9 : decode cX7_find 9 = .ok (.if_icmp .eq 9, 3) := by decide +kernel
theorem dX7_find_12 : decode cX7_find 12 = .ok (.iinc 2 1, 3) := by decide +kernel
theorem dX7_find_15 : decode cX7_find 15 = .ok (.goto (-13), 3) := by decide +kernel
theorem dX7_find_18 : decode cX7_find 18 = .ok (.iload_n 2, 1) := by decide +kernel
theorem dX7_find_19 : decode cX7_find 19 = .ok (.ireturn, 1) := by decide +kernel
theorem dX7_ups_0 : decode cX7_ups 0 = .ok (.iconst 0, 1) := by decide +kernel
theorem dX7_ups_1 : decode cX7_ups 1 = .ok (.istore_n 1, 1) := by decide +kernel
theorem dX7_ups_2 : decode cX7_ups 2 = .ok (.aload_n 0, 1) := by decide +kernel
theorem dX7_ups_3 : decode cX7_ups 3 = .ok (.getfield 25, 3) := by decide +kernel
theorem dX7_ups_6 : decode cX7_ups 6 = .ok (.astore_n 2, 1) := by decide +kernel
theorem dX7_ups_7 : decode cX7_ups 7 = .ok (.aload_n 2, 1) := by decide +kernel
theorem dX7_ups_8 : decode cX7_ups 8 = .ok (.arraylength, 1) := by decide +kernel
theorem dX7_ups_9 : decode cX7_ups 9 = .ok (.istore_n 3, 1) := by decide +kernel
theorem dX7_ups_10 : decode cX7_ups 10 = .ok (.iconst 0, 1) := by decide +kernel
theorem dX7_ups_11 : decode cX7_ups 11 = .ok (.istore 4, 2) := by decide +kernel
theorem dX7_ups_13 : decode cX7_ups 13 = .ok (.iload 4, 2) := by decide +kernel
theorem dX7_ups_15 : decode cX7_ups 15 = .ok (.iload_n 3, 1) := by decide +kernel
theorem dX7_ups_16 : decode cX7_ups 16 = .ok (.if_icmp .ge 28, 3) := by decide +kernel
theorem dX7_ups_19 : decode cX7_ups 19 = .ok (.aload_n 2, 1) := by decide +kernel
theorem dX7_ups_20 : decode cX7_ups 20 = .ok (.iload 4, 2) := by decide +kernel
theorem dX7_ups_22 : decode cX7_ups 22 = .ok (.baload, 1) := by decide +kernel
theorem dX7_ups_23 : decode cX7_ups 23 = .ok (.istore 5, 2) := by decide +kernel
theorem dX7_ups_25 : decode cX7_ups 25 = .ok (.iload_n 1, 1) := by decide +kernel
theorem dX7_ups_26 : decode cX7_ups 26 = .ok (.iload 5, 2) := by decide +kernel
theorem dX7_ups_28 : decode cX7_ups 28 = .ok (.ifCond .eq 7, 3) := by decide +kernel
theorem dX7_ups_31 : decode cX7_ups 31 = .ok (.iconst 1, 1) := by decide +kernel
theorem dX7_ups_32 : decode cX7_ups 32 = .ok (.goto 4, 3) := by decide +kernel
theorem dX7_ups_35 : decode cX7_ups 35 = .ok (.iconst 0, 1) := by decide +kernel
theorem dX7_ups_36 : decode cX7_ups 36 = .ok (.iadd, 1) := by decide +kernel
theorem dX7_ups_37 : decode cX7_ups 37 = .ok (.istore_n 1, 1) := by decide +kernel
theorem dX7_ups_38 : decode cX7_ups 38 = .ok (.iinc 4 1, 3) := by decide +kernel
theorem dX7_ups_41 : decode cX7_ups 41 = .ok (.goto (-28), 3) := by decide +kernel
theorem dX7_ups_44 : decode cX7_ups 44 = .ok (.iload_n 1, 1) := by decide +kernel
theorem dX7_ups_45 : decode cX7_ups 45 = .ok (.ireturn, 1) := by decide +kernel
theorem dX7_inversions_0 : decode cX7_inversions 0 = .ok (.aload_n 0, 1) := by decide +kernel
theorem dX7_inversions_1 : decode cX7_inversions 1 = .ok (.new 43, 3) := by decide +kernel
theorem dX7_inversions_4 : decode cX7_inversions 4 = .ok (.dup, 1) := by decide +kernel
theorem dX7_inversions_5 : decode cX7_inversions 5 = .ok (.aload_n 0, 1) := by decide +kernel
theorem dX7_inversions_6 : decode cX7_inversions 6 = .ok (.invokevirtual 29, 3) := by decide +kernel
theorem dX7_inversions_9 : decode cX7_inversions 9 = .ok (.invokespecial 56, 3) := by decide +kernel
theorem dX7_inversions_12 : decode cX7_inversions 12 = .ok (.invokevirtual 59, 3) := by decide +kernel
theorem dX7_inversions_15 : decode cX7_inversions 15 = .ok (.ireturn, 1) := by decide +kernel
theorem dX7_inversions__0 : decode cX7_inversions_ 0 = .ok (.iconst 0, 1) := by decide +kernel
theorem dX7_inversions__1 : decode cX7_inversions_ 1 = .ok (.istore_n 2, 1) := by decide +kernel
theorem dX7_inversions__2 : decode cX7_inversions_ 2 = .ok (.iconst 0, 1) := by decide +kernel
theorem dX7_inversions__3 : decode cX7_inversions_ 3 = .ok (.istore_n 3, 1) := by decide +kernel
theorem dX7_inversions__4 : decode cX7_inversions_ 4 = .ok (.iload_n 3, 1) := by decide +kernel
theorem dX7_inversions__5 : decode cX7_inversions_ 5 = .ok (.aload_n 0, 1) := by decide +kernel
theorem dX7_inversions__6 : decode cX7_inversions_ 6 = .ok (.invokevirtual 29, 3) := by decide +kernel
theorem dX7_inversions__9 : decode cX7_inversions_ 9 = .ok (.if_icmp .ge 63, 3) := by decide +kernel
theorem dX7_inversions__12 : decode cX7_inversions_ 12 = .ok (.iload_n 3, 1) := by decide +kernel
theorem dX7_inversions__13 : decode cX7_inversions_ 13 = .ok (.iconst 1, 1) := by decide +kernel
theorem dX7_inversions__14 : decode cX7_inversions_ 14 = .ok (.iadd, 1) := by decide +kernel
theorem dX7_inversions__15 : decode cX7_inversions_ 15 = .ok (.istore 4, 2) := by decide +kernel
theorem dX7_inversions__17 : decode cX7_inversions_ 17 = .ok (.iload 4, 2) := by decide +kernel
theorem dX7_inversions__19 : decode cX7_inversions_ 19 = .ok (.aload_n 0, 1) := by decide +kernel
theorem dX7_inversions__20 : decode cX7_inversions_ 20 = .ok (.invokevirtual 29, 3) := by decide +kernel
theorem dX7_inversions__23 : decode cX7_inversions_ 23 = .ok (.if_icmp .ge 43, 3) := by decide +kernel
theorem dX7_inversions__26 : decode cX7_inversions_ 26 = .ok (.iload_n 2, 1) := by decide +kernel
theorem dX7_inversions__27 : decode cX7_inversions_ 27 = .ok (.aload_n 0, 1) := by decide +kernel
theorem dX7_inversions__28 : decode cX7_inversions_ 28 = .ok (.getfield 21, 3) := by decide +kernel
theorem dX7_inversions__31 : decode cX7_inversions_ 31 = .ok (.aload_n 1, 1) := by decide +kernel
theorem dX7_inversions__32 : decode cX7_inversions_ 32 = .ok (.getfield 42, 3) := by decide +kernel
theorem dX7_inversions__35 : decode cX7_inversions_ 35 = .ok (.iload_n 3, 1) := by decide +kernel
theorem dX7_inversions__36 : decode cX7_inversions_ 36 = .ok (.iaload, 1) := by decide +kernel
theorem dX7_inversions__37 : decode cX7_inversions_ 37 = .ok (.iaload, 1) := by decide +kernel
theorem dX7_inversions__38 : decode cX7_inversions_ 38 = .ok (.aload_n 0, 1) := by decide +kernel
theorem dX7_inversions__39 : decode cX7_inversions_ 39 = .ok (.getfield 21, 3) := by decide +kernel
theorem dX7_inversions__42 : decode cX7_inversions_ 42 = .ok (.aload_n 1, 1) := by decide +kernel
theorem dX7_inversions__43 : decode cX7_inversions_ 43 = .ok (.getfield 42, 3) := by decide +kernel
theorem dX7_inversions__46 : decode cX7_inversions_ 46 = .ok (.iload 4, 2) := by decide +kernel
theorem dX7_inversions__48 : decode cX7_inversions_ 48 = .ok (.iaload, 1) := by decide +kernel
theorem dX7_inversions__49 : decode cX7_inversions_ 49 = .ok (.iaload, 1) := by decide +kernel
theorem dX7_inversions__50 : decode cX7_inversions_ 50 = .ok (.if_icmp .le 7, 3) := by decide +kernel
theorem dX7_inversions__53 : decode cX7_inversions_ 53 = .ok (.iconst 1, 1) := by decide +kernel
theorem dX7_inversions__54 : decode cX7_inversions_ 54 = .ok (.goto 4, 3) := by decide +kernel
theorem dX7_inversions__57 : decode cX7_inversions_ 57 = .ok (.iconst 0, 1) := by decide +kernel
theorem dX7_inversions__58 : decode cX7_inversions_ 58 = .ok (.iadd, 1) := by decide +kernel
theorem dX7_inversions__59 : decode cX7_inversions_ 59 = .ok (.istore_n 2, 1) := by decide +kernel
theorem dX7_inversions__60 : decode cX7_inversions_ 60 = .ok (.iinc 4 1, 3) := by decide +kernel
theorem dX7_inversions__63 : decode cX7_inversions_ 63 = .ok (.goto (-46), 3) := by decide +kernel
theorem dX7_inversions__66 : decode cX7_inversions_ 66 = .ok (.iinc 3 1, 3) := by decide +kernel
theorem dX7_inversions__69 : decode cX7_inversions_ 69 = .ok (.goto (-65), 3) := by decide +kernel
theorem dX7_inversions__72 : decode cX7_inversions_ 72 = .ok (.iload_n 2, 1) := by decide +kernel
theorem dX7_inversions__73 : decode cX7_inversions_ 73 = .ok (.ireturn, 1) := by decide +kernel
theorem dX7_runs_0 : decode cX7_runs 0 = .ok (.iconst 1, 1) := by decide +kernel
theorem dX7_runs_1 : decode cX7_runs 1 = .ok (.istore_n 1, 1) := by decide +kernel
theorem dX7_runs_2 : decode cX7_runs 2 = .ok (.iconst 0, 1) := by decide +kernel
theorem dX7_runs_3 : decode cX7_runs 3 = .ok (.istore_n 2, 1) := by decide +kernel
theorem dX7_runs_4 : decode cX7_runs 4 = .ok (.iload_n 2, 1) := by decide +kernel
theorem dX7_runs_5 : decode cX7_runs 5 = .ok (.iconst 1, 1) := by decide +kernel
theorem dX7_runs_6 : decode cX7_runs 6 = .ok (.iadd, 1) := by decide +kernel
theorem dX7_runs_7 : decode cX7_runs 7 = .ok (.aload_n 0, 1) := by decide +kernel
theorem dX7_runs_8 : decode cX7_runs 8 = .ok (.invokevirtual 29, 3) := by decide +kernel
theorem dX7_runs_11 : decode cX7_runs 11 = .ok (.if_icmp .ge 32, 3) := by decide +kernel
theorem dX7_runs_14 : decode cX7_runs 14 = .ok (.iload_n 1, 1) := by decide +kernel
theorem dX7_runs_15 : decode cX7_runs 15 = .ok (.aload_n 0, 1) := by decide +kernel
theorem dX7_runs_16 : decode cX7_runs 16 = .ok (.iload_n 2, 1) := by decide +kernel
theorem dX7_runs_17 : decode cX7_runs 17 = .ok (.iconst 1, 1) := by decide +kernel
theorem dX7_runs_18 : decode cX7_runs 18 = .ok (.iadd, 1) := by decide +kernel
theorem dX7_runs_19 : decode cX7_runs 19 = .ok (.invokevirtual 63, 3) := by decide +kernel
theorem dX7_runs_22 : decode cX7_runs 22 = .ok (.aload_n 0, 1) := by decide +kernel
theorem dX7_runs_23 : decode cX7_runs 23 = .ok (.iload_n 2, 1) := by decide +kernel
theorem dX7_runs_24 : decode cX7_runs 24 = .ok (.invokevirtual 63, 3) := by decide +kernel
theorem dX7_runs_27 : decode cX7_runs 27 = .ok (.if_icmp .ge 7, 3) := by decide +kernel
theorem dX7_runs_30 : decode cX7_runs 30 = .ok (.iconst 1, 1) := by decide +kernel
theorem dX7_runs_31 : decode cX7_runs 31 = .ok (.goto 4, 3) := by decide +kernel
theorem dX7_runs_34 : decode cX7_runs 34 = .ok (.iconst 0, 1) := by decide +kernel
theorem dX7_runs_35 : decode cX7_runs 35 = .ok (.iadd, 1) := by decide +kernel
theorem dX7_runs_36 : decode cX7_runs 36 = .ok (.istore_n 1, 1) := by decide +kernel
theorem dX7_runs_37 : decode cX7_runs 37 = .ok (.iinc 2 1, 3) := by decide +kernel
theorem dX7_runs_40 : decode cX7_runs 40 = .ok (.goto (-36), 3) := by decide +kernel
theorem dX7_runs_43 : decode cX7_runs 43 = .ok (.iload_n 1, 1) := by decide +kernel
theorem dX7_runs_44 : decode cX7_runs 44 = .ok (.ireturn, 1) := by decide +kernel
theorem dX7_cycles_0 : decode cX7_cycles 0 = .ok (.iconst 4, 1) := by decide +kernel
theorem dX7_cycles_1 : decode cX7_cycles 1 = .ok (.newarray .int, 2) := by decide +kernel
theorem dX7_cycles_3 : decode cX7_cycles 3 = .ok (.dup, 1) := by decide +kernel
theorem dX7_cycles_4 : decode cX7_cycles 4 = .ok (.iconst 0, 1) := by decide +kernel
theorem dX7_cycles_5 : decode cX7_cycles 5 = .ok (.iconst 0, 1) := by decide +kernel
theorem dX7_cycles_6 : decode cX7_cycles 6 = .ok (.iastore, 1) := by decide +kernel
theorem dX7_cycles_7 : decode cX7_cycles 7 = .ok (.dup, 1) := by decide +kernel
theorem dX7_cycles_8 : decode cX7_cycles 8 = .ok (.iconst 1, 1) := by decide +kernel
theorem dX7_cycles_9 : decode cX7_cycles 9 = .ok (.iconst 0, 1) := by decide +kernel
theorem dX7_cycles_10 : decode cX7_cycles 10 = .ok (.iastore, 1) := by decide +kernel
theorem dX7_cycles_11 : decode cX7_cycles 11 = .ok (.dup, 1) := by decide +kernel
theorem dX7_cycles_12 : decode cX7_cycles 12 = .ok (.iconst 2, 1) := by decide +kernel
theorem dX7_cycles_13 : decode cX7_cycles 13 = .ok (.iconst 1, 1) := by decide +kernel
theorem dX7_cycles_14 : decode cX7_cycles 14 = .ok (.iastore, 1) := by decide +kernel
theorem dX7_cycles_15 : decode cX7_cycles 15 = .ok (.dup, 1) := by decide +kernel
theorem dX7_cycles_16 : decode cX7_cycles 16 = .ok (.iconst 3, 1) := by decide +kernel
theorem dX7_cycles_17 : decode cX7_cycles 17 = .ok (.iconst 0, 1) := by decide +kernel
theorem dX7_cycles_18 : decode cX7_cycles 18 = .ok (.iastore, 1) := by decide +kernel
theorem dX7_cycles_19 : decode cX7_cycles 19 = .ok (.astore_n 2, 1) := by decide +kernel
theorem dX7_cycles_20 : decode cX7_cycles 20 = .ok (.aload_n 0, 1) := by decide +kernel
theorem dX7_cycles_21 : decode cX7_cycles 21 = .ok (.invokevirtual 29, 3) := by decide +kernel
theorem dX7_cycles_24 : decode cX7_cycles 24 = .ok (.newarray .boolean, 2) := by decide +kernel
theorem dX7_cycles_26 : decode cX7_cycles 26 = .ok (.astore_n 3, 1) := by decide +kernel
theorem dX7_cycles_27 : decode cX7_cycles 27 = .ok (.iconst 0, 1) := by decide +kernel
theorem dX7_cycles_28 : decode cX7_cycles 28 = .ok (.istore 4, 2) := by decide +kernel
theorem dX7_cycles_30 : decode cX7_cycles 30 = .ok (.iload 4, 2) := by decide +kernel
theorem dX7_cycles_32 : decode cX7_cycles 32 = .ok (.aload_n 0, 1) := by decide +kernel
theorem dX7_cycles_33 : decode cX7_cycles 33 = .ok (.invokevirtual 29, 3) := by decide +kernel
theorem dX7_cycles_36 : decode cX7_cycles 36 = .ok (.if_icmp .ge 104, 3) := by decide +kernel
theorem dX7_cycles_39 : decode cX7_cycles 39 = .ok (.iconst 0, 1) := by decide +kernel
theorem dX7_cycles_40 : decode cX7_cycles 40 = .ok (.istore 5, 2) := by decide +kernel
theorem dX7_cycles_42 : decode cX7_cycles 42 = .ok (.iload 4, 2) := by decide +kernel
theorem dX7_cycles_44 : decode cX7_cycles 44 = .ok (.istore 6, 2) := by decide +kernel
theorem dX7_cycles_46 : decode cX7_cycles 46 = .ok (.aload_n 3, 1) := by decide +kernel
theorem dX7_cycles_47 : decode cX7_cycles 47 = .ok (.iload 6, 2) := by decide +kernel
theorem dX7_cycles_49 : decode cX7_cycles 49 = .ok (.baload, 1) := by decide +kernel
theorem dX7_cycles_50 : decode cX7_cycles 50 = .ok (.ifCond .ne 23, 3) := by decide +kernel
theorem dX7_cycles_53 : decode cX7_cycles 53 = .ok (.aload_n 3, 1) := by decide +kernel
theorem dX7_cycles_54 : decode cX7_cycles 54 = .ok (.iload 6, 2) := by decide +kernel
theorem dX7_cycles_56 : decode cX7_cycles 56 = .ok (.iconst 1, 1) := by decide +kernel
theorem dX7_cycles_57 : decode cX7_cycles 57 = .ok (.bastore, 1) := by decide +kernel
theorem dX7_cycles_58 : decode cX7_cycles 58 = .ok (.iinc 5 1, 3) := by decide +kernel
theorem dX7_cycles_61 : decode cX7_cycles 61 = .ok (.aload_n 0, 1) := by decide +kernel
theorem dX7_cycles_62 : decode cX7_cycles 62 = .ok (.getfield 21, 3) := by decide +kernel
theorem dX7_cycles_65 : decode cX7_cycles 65 = .ok (.iload 6, 2) := by decide +kernel
theorem dX7_cycles_67 : decode cX7_cycles 67 = .ok (.iaload, 1) := by decide +kernel
theorem dX7_cycles_68 : decode cX7_cycles 68 = .ok (.istore 6, 2) := by decide +kernel
theorem dX7_cycles_70 : decode cX7_cycles 70 = .ok (.goto (-24), 3) := by decide +kernel
theorem dX7_cycles_73 : decode cX7_cycles 73 = .ok (.iload 5, 2) := by decide +kernel
theorem dX7_cycles_75 : decode cX7_cycles 75 = .ok (.ifCond .ne 6, 3) := by decide +kernel
theorem dX7_cycles_78 : decode cX7_cycles 78 = .ok (.goto 56, 3) := by decide +kernel
theorem dX7_cycles_81 : decode cX7_cycles 81 = .ok (.aload_n 2, 1) := by decide +kernel
theorem dX7_cycles_82 : decode cX7_cycles 82 = .ok (.iconst 0, 1) := by decide +kernel
theorem dX7_cycles_83 : decode cX7_cycles 83 = .ok (.dup2, 1) := by decide +kernel
theorem dX7_cycles_84 : decode cX7_cycles 84 = .ok (.iaload, 1) := by decide +kernel
theorem dX7_cycles_85 : decode cX7_cycles 85 = .ok (.iconst 1, 1) := by decide +kernel
theorem dX7_cycles_86 : decode cX7_cycles 86 = .ok (.iadd, 1) := by decide +kernel
theorem dX7_cycles_87 : decode cX7_cycles 87 = .ok (.iastore, 1) := by decide +kernel
theorem dX7_cycles_88 : decode cX7_cycles 88 = .ok (.aload_n 2, 1) := by decide +kernel
theorem dX7_cycles_89 : decode cX7_cycles 89 = .ok (.iconst 1, 1) := by decide +kernel
theorem dX7_cycles_90 : decode cX7_cycles 90 = .ok (.dup2, 1) := by decide +kernel
theorem dX7_cycles_91 : decode cX7_cycles 91 = .ok (.iaload, 1) := by decide +kernel
theorem dX7_cycles_92 : decode cX7_cycles 92 = .ok (.iload 5, 2) := by decide +kernel
theorem dX7_cycles_94 : decode cX7_cycles 94 = .ok (.iconst 1, 1) := by decide +kernel
theorem dX7_cycles_95 : decode cX7_cycles 95 = .ok (.if_icmp .ne 7, 3) := by decide +kernel
theorem dX7_cycles_98 : decode cX7_cycles 98 = .ok (.iconst 1, 1) := by decide +kernel
theorem dX7_cycles_99 : decode cX7_cycles 99 = .ok (.goto 4, 3) := by decide +kernel
theorem dX7_cycles_102 : decode cX7_cycles 102 = .ok (.iconst 0, 1) := by decide +kernel
theorem dX7_cycles_103 : decode cX7_cycles 103 = .ok (.iadd, 1) := by decide +kernel
theorem dX7_cycles_104 : decode cX7_cycles 104 = .ok (.iastore, 1) := by decide +kernel
theorem dX7_cycles_105 : decode cX7_cycles 105 = .ok (.aload_n 2, 1) := by decide +kernel
theorem dX7_cycles_106 : decode cX7_cycles 106 = .ok (.iconst 2, 1) := by decide +kernel
theorem dX7_cycles_107 : decode cX7_cycles 107 = .ok (.aload_n 2, 1) := by decide +kernel
theorem dX7_cycles_108 : decode cX7_cycles 108 = .ok (.iconst 2, 1) := by decide +kernel
theorem dX7_cycles_109 : decode cX7_cycles 109 = .ok (.iaload, 1) := by decide +kernel
theorem dX7_cycles_110 : decode cX7_cycles 110 = .ok (.aload_n 2, 1) := by decide +kernel
theorem dX7_cycles_111 : decode cX7_cycles 111 = .ok (.iconst 2, 1) := by decide +kernel
theorem dX7_cycles_112 : decode cX7_cycles 112 = .ok (.iaload, 1) := by decide +kernel
theorem dX7_cycles_113 : decode cX7_cycles 113 = .ok (.iload 5, 2) := by decide +kernel
theorem dX7_cycles_115 : decode cX7_cycles 115 = .ok (.invokestatic 67, 3) := by decide +kernel
theorem dX7_cycles_118 : decode cX7_cycles 118 = .ok (.idiv, 1) := by decide +kernel
theorem dX7_cycles_119 : decode cX7_cycles 119 = .ok (.iload 5, 2) := by decide +kernel
theorem dX7_cycles_121 : decode cX7_cycles 121 = .ok (.imul, 1) := by decide +kernel
theorem dX7_cycles_122 : decode cX7_cycles 122 = .ok (.iastore, 1) := by decide +kernel
theorem dX7_cycles_123 : decode cX7_cycles 123 = .ok (.aload_n 2, 1) := by decide +kernel
theorem dX7_cycles_124 : decode cX7_cycles 124 = .ok (.iconst 3, 1) := by decide +kernel
theorem dX7_cycles_125 : decode cX7_cycles 125 = .ok (.aload_n 2, 1) := by decide +kernel
theorem dX7_cycles_126 : decode cX7_cycles 126 = .ok (.iconst 3, 1) := by decide +kernel
theorem dX7_cycles_127 : decode cX7_cycles 127 = .ok (.iaload, 1) := by decide +kernel
theorem dX7_cycles_128 : decode cX7_cycles 128 = .ok (.iload 5, 2) := by decide +kernel
theorem dX7_cycles_130 : decode cX7_cycles 130 = .ok (.invokestatic 71, 3) := by decide +kernel
theorem dX7_cycles_133 : decode cX7_cycles 133 = .ok (.iastore, 1) := by decide +kernel
theorem dX7_cycles_134 : decode cX7_cycles 134 = .ok (.iinc 4 1, 3) := by decide +kernel
theorem dX7_cycles_137 : decode cX7_cycles 137 = .ok (.goto (-107), 3) := by decide +kernel
theorem dX7_cycles_140 : decode cX7_cycles 140 = .ok (.aload_n 2, 1) := by decide +kernel
theorem dX7_cycles_141 : decode cX7_cycles 141 = .ok (.iload_n 1, 1) := by decide +kernel
theorem dX7_cycles_142 : decode cX7_cycles 142 = .ok (.iaload, 1) := by decide +kernel
theorem dX7_cycles_143 : decode cX7_cycles 143 = .ok (.ireturn, 1) := by decide +kernel
theorem dX7_climb_0 : decode cX7_climb 0 = .ok (.aload_n 0, 1) := by decide +kernel
theorem dX7_climb_1 : decode cX7_climb 1 = .ok (.invokevirtual 29, 3) := by decide +kernel
theorem dX7_climb_4 : decode cX7_climb 4 = .ok (.newarray .int, 2) := by decide +kernel
theorem dX7_climb_6 : decode cX7_climb 6 = .ok (.astore_n 1, 1) := by decide +kernel
theorem dX7_climb_7 : decode cX7_climb 7 = .ok (.iconst 0, 1) := by decide +kernel
theorem dX7_climb_8 : decode cX7_climb 8 = .ok (.istore_n 2, 1) := by decide +kernel
theorem dX7_climb_9 : decode cX7_climb 9 = .ok (.iconst 0, 1) := by decide +kernel
theorem dX7_climb_10 : decode cX7_climb 10 = .ok (.istore_n 3, 1) := by decide +kernel
theorem dX7_climb_11 : decode cX7_climb 11 = .ok (.iload_n 3, 1) := by decide +kernel
theorem dX7_climb_12 : decode cX7_climb 12 = .ok (.aload_n 0, 1) := by decide +kernel
theorem dX7_climb_13 : decode cX7_climb 13 = .ok (.invokevirtual 29, 3) := by decide +kernel
theorem dX7_climb_16 : decode cX7_climb 16 = .ok (.if_icmp .ge 67, 3) := by decide +kernel
theorem dX7_climb_19 : decode cX7_climb 19 = .ok (.aload_n 1, 1) := by decide +kernel
theorem dX7_climb_20 : decode cX7_climb 20 = .ok (.iload_n 3, 1) := by decide +kernel
theorem dX7_climb_21 : decode cX7_climb 21 = .ok (.iconst 1, 1) := by decide +kernel
theorem dX7_climb_22 : decode cX7_climb 22 = .ok (.iastore, 1) := by decide +kernel
theorem dX7_climb_23 : decode cX7_climb 23 = .ok (.iconst 0, 1) := by decide +kernel
theorem dX7_climb_24 : decode cX7_climb 24 = .ok (.istore 4, 2) := by decide +kernel
theorem dX7_climb_26 : decode cX7_climb 26 = .ok (.iload 4, 2) := by decide +kernel
theorem dX7_climb_28 : decode cX7_climb 28 = .ok (.iload_n 3, 1) := by decide +kernel
theorem dX7_climb_29 : decode cX7_climb 29 = .ok (.if_icmp .ge 40, 3) := by decide +kernel
theorem dX7_climb_32 : decode cX7_climb 32 = .ok (.aload_n 0, 1) := by decide +kernel
theorem dX7_climb_33 : decode cX7_climb 33 = .ok (.getfield 21, 3) := by decide +kernel
theorem dX7_climb_36 : decode cX7_climb 36 = .ok (.iload 4, 2) := by decide +kernel
theorem dX7_climb_38 : decode cX7_climb 38 = .ok (.iaload, 1) := by decide +kernel
theorem dX7_climb_39 : decode cX7_climb 39 = .ok (.aload_n 0, 1) := by decide +kernel
theorem dX7_climb_40 : decode cX7_climb 40 = .ok (.getfield 21, 3) := by decide +kernel
theorem dX7_climb_43 : decode cX7_climb 43 = .ok (.iload_n 3, 1) := by decide +kernel
theorem dX7_climb_44 : decode cX7_climb 44 = .ok (.iaload, 1) := by decide +kernel
theorem dX7_climb_45 : decode cX7_climb 45 = .ok (.if_icmp .ge 18, 3) := by decide +kernel
theorem dX7_climb_48 : decode cX7_climb 48 = .ok (.aload_n 1, 1) := by decide +kernel
theorem dX7_climb_49 : decode cX7_climb 49 = .ok (.iload_n 3, 1) := by decide +kernel
theorem dX7_climb_50 : decode cX7_climb 50 = .ok (.aload_n 1, 1) := by decide +kernel
theorem dX7_climb_51 : decode cX7_climb 51 = .ok (.iload_n 3, 1) := by decide +kernel
theorem dX7_climb_52 : decode cX7_climb 52 = .ok (.iaload, 1) := by decide +kernel
theorem dX7_climb_53 : decode cX7_climb 53 = .ok (.aload_n 1, 1) := by decide +kernel
theorem dX7_climb_54 : decode cX7_climb 54 = .ok (.iload 4, 2) := by decide +kernel
theorem dX7_climb_56 : decode cX7_climb 56 = .ok (.iaload, 1) := by decide +kernel
theorem dX7_climb_57 : decode cX7_climb 57 = .ok (.iconst 1, 1) := by decide +kernel
theorem dX7_climb_58 : decode cX7_climb 58 = .ok (.iadd, 1) := by decide +kernel
theorem dX7_climb_59 : decode cX7_climb 59 = .ok (.invokestatic 71, 3) := by decide +kernel
theorem dX7_climb_62 : decode cX7_climb 62 = .ok (.iastore, 1) := by decide +kernel
theorem dX7_climb_63 : decode cX7_climb 63 = .ok (.iinc 4 1, 3) := by decide +kernel
theorem dX7_climb_66 : decode cX7_climb 66 = .ok (.goto (-40), 3) := by decide +kernel
theorem dX7_climb_69 : decode cX7_climb 69 = .ok (.iload_n 2, 1) := by decide +kernel
theorem dX7_climb_70 : decode cX7_climb 70 = .ok (.aload_n 1, 1) := by decide +kernel
theorem dX7_climb_71 : decode cX7_climb 71 = .ok (.iload_n 3, 1) := by decide +kernel
theorem dX7_climb_72 : decode cX7_climb 72 = .ok (.iaload, 1) := by decide +kernel
theorem dX7_climb_73 : decode cX7_climb 73 = .ok (.invokestatic 71, 3) := by decide +kernel
theorem dX7_climb_76 : decode cX7_climb 76 = .ok (.istore_n 2, 1) := by decide +kernel
theorem dX7_climb_77 : decode cX7_climb 77 = .ok (.iinc 3 1, 3) := by decide +kernel
theorem dX7_climb_80 : decode cX7_climb 80 = .ok (.goto (-69), 3) := by decide +kernel
theorem dX7_climb_83 : decode cX7_climb 83 = .ok (.iload_n 2, 1) := by decide +kernel
theorem dX7_climb_84 : decode cX7_climb 84 = .ok (.ireturn, 1) := by decide +kernel
theorem dX7_hasPairs_0 : decode cX7_hasPairs 0 = .ok (.iconst 0, 1) := by decide +kernel
theorem dX7_hasPairs_1 : decode cX7_hasPairs 1 = .ok (.istore_n 1, 1) := by decide +kernel
theorem dX7_hasPairs_2 : decode cX7_hasPairs 2 = .ok (.iload_n 1, 1) := by decide +kernel
theorem dX7_hasPairs_3 : decode cX7_hasPairs 3 = .ok (.iconst 1, 1) := by decide +kernel
theorem dX7_hasPairs_4 : decode cX7_hasPairs 4 = .ok (.iadd, 1) := by decide +kernel
theorem dX7_hasPairs_5 : decode cX7_hasPairs 5 = .ok (.aload_n 0, 1) := by decide +kernel
theorem dX7_hasPairs_6 : decode cX7_hasPairs 6 = .ok (.invokevirtual 29, 3) := by decide +kernel
theorem dX7_hasPairs_9 : decode cX7_hasPairs 9 = .ok (.if_icmp .ge 32, 3) := by decide +kernel
theorem dX7_hasPairs_12 : decode cX7_hasPairs 12 = .ok (.aload_n 0, 1) := by decide +kernel
theorem dX7_hasPairs_13 : decode cX7_hasPairs 13 = .ok (.getfield 21, 3) := by decide +kernel
theorem dX7_hasPairs_16 : decode cX7_hasPairs 16 = .ok (.iload_n 1, 1) := by decide +kernel
theorem dX7_hasPairs_17 : decode cX7_hasPairs 17 = .ok (.iaload, 1) := by decide +kernel
theorem dX7_hasPairs_18 : decode cX7_hasPairs 18 = .ok (.iconst 2, 1) := by decide +kernel
theorem dX7_hasPairs_19 : decode cX7_hasPairs 19 = .ok (.irem, 1) := by decide +kernel
theorem dX7_hasPairs_20 : decode cX7_hasPairs 20 = .ok (.aload_n 0, 1) := by decide +kernel
theorem dX7_hasPairs_21 : decode cX7_hasPairs 21 = .ok (.getfield 21, 3) := by decide +kernel
theorem dX7_hasPairs_24 : decode cX7_hasPairs 24 = .ok (.iload_n 1, 1) := by decide +kernel
theorem dX7_hasPairs_25 : decode cX7_hasPairs 25 = .ok (.iconst 1, 1) := by decide +kernel
theorem dX7_hasPairs_26 : decode cX7_hasPairs 26 = .ok (.iadd, 1) := by decide +kernel
theorem dX7_hasPairs_27 : decode cX7_hasPairs 27 = .ok (.iaload, 1) := by decide +kernel
theorem dX7_hasPairs_28 : decode cX7_hasPairs 28 = .ok (.iconst 2, 1) := by decide +kernel
theorem dX7_hasPairs_29 : decode cX7_hasPairs 29 = .ok (.irem, 1) := by decide +kernel
theorem dX7_hasPairs_30 : decode cX7_hasPairs 30 = .ok (.if_icmp .ne 5, 3) := by decide +kernel
theorem dX7_hasPairs_33 : decode cX7_hasPairs 33 = .ok (.iconst 0, 1) := by decide +kernel
theorem dX7_hasPairs_34 : decode cX7_hasPairs 34 = .ok (.ireturn, 1) := by decide +kernel
theorem dX7_hasPairs_35 : decode cX7_hasPairs 35 = .ok (.iinc 1 2, 3) := by decide +kernel
theorem dX7_hasPairs_38 : decode cX7_hasPairs 38 = .ok (.goto (-36), 3) := by decide +kernel
theorem dX7_hasPairs_41 : decode cX7_hasPairs 41 = .ok (.iconst 1, 1) := by decide +kernel
theorem dX7_hasPairs_42 : decode cX7_hasPairs 42 = .ok (.ireturn, 1) := by decide +kernel
theorem dX7_hasFours_0 : decode cX7_hasFours 0 = .ok (.iconst 0, 1) := by decide +kernel
theorem dX7_hasFours_1 : decode cX7_hasFours 1 = .ok (.istore_n 1, 1) := by decide +kernel
theorem dX7_hasFours_2 : decode cX7_hasFours 2 = .ok (.iload_n 1, 1) := by decide +kernel
theorem dX7_hasFours_3 : decode cX7_hasFours 3 = .ok (.iconst 3, 1) := by decide +kernel
theorem dX7_hasFours_4 : decode cX7_hasFours 4 = .ok (.iadd, 1) := by decide +kernel
theorem dX7_hasFours_5 : decode cX7_hasFours 5 = .ok (.aload_n 0, 1) := by decide +kernel
theorem dX7_hasFours_6 : decode cX7_hasFours 6 = .ok (.invokevirtual 29, 3) := by decide +kernel
theorem dX7_hasFours_9 : decode cX7_hasFours 9 = .ok (.if_icmp .ge 47, 3) := by decide +kernel
theorem dX7_hasFours_12 : decode cX7_hasFours 12 = .ok (.iconst 0, 1) := by decide +kernel
theorem dX7_hasFours_13 : decode cX7_hasFours 13 = .ok (.istore_n 2, 1) := by decide +kernel
theorem dX7_hasFours_14 : decode cX7_hasFours 14 = .ok (.iload_n 1, 1) := by decide +kernel
theorem dX7_hasFours_15 : decode cX7_hasFours 15 = .ok (.istore_n 3, 1) := by decide +kernel
theorem dX7_hasFours_16 : decode cX7_hasFours 16 = .ok (.iload_n 3, 1) := by decide +kernel
theorem dX7_hasFours_17 : decode cX7_hasFours 17 = .ok (.iload_n 1, 1) := by decide +kernel
theorem dX7_hasFours_18 : decode cX7_hasFours 18 = .ok (.iconst 4, 1) := by decide +kernel
theorem dX7_hasFours_19 : decode cX7_hasFours 19 = .ok (.iadd, 1) := by decide +kernel
theorem dX7_hasFours_20 : decode cX7_hasFours 20 = .ok (.if_icmp .ge 22, 3) := by decide +kernel
theorem dX7_hasFours_23 : decode cX7_hasFours 23 = .ok (.iload_n 2, 1) := by decide +kernel
theorem dX7_hasFours_24 : decode cX7_hasFours 24 = .ok (.iconst 1, 1) := by decide +kernel
theorem dX7_hasFours_25 : decode cX7_hasFours 25 = .ok (.aload_n 0, 1) := by decide +kernel
theorem dX7_hasFours_26 : decode cX7_hasFours 26 = .ok (.getfield 21, 3) := by decide +kernel
theorem dX7_hasFours_29 : decode cX7_hasFours 29 = .ok (.iload_n 3, 1) := by decide +kernel
theorem dX7_hasFours_30 : decode cX7_hasFours 30 = .ok (.iaload, 1) := by decide +kernel
theorem dX7_hasFours_31 : decode cX7_hasFours 31 = .ok (.iconst 4, 1) := by decide +kernel
theorem dX7_hasFours_32 : decode cX7_hasFours 32 = .ok (.irem, 1) := by decide +kernel
theorem dX7_hasFours_33 : decode cX7_hasFours 33 = .ok (.ishl, 1) := by decide +kernel
theorem dX7_hasFours_34 : decode cX7_hasFours 34 = .ok (.ior, 1) := by decide +kernel
theorem dX7_hasFours_35 : decode cX7_hasFours 35 = .ok (.istore_n 2, 1) := by decide +kernel
theorem dX7_hasFours_36 : decode cX7_hasFours 36 = .ok (.iinc 3 1, 3) := by decide +kernel
theorem dX7_hasFours_39 : decode cX7_hasFours 39 = .ok (.goto (-23), 3) := by decide +kernel
theorem dX7_hasFours_42 : decode cX7_hasFours 42 = .ok (.iload_n 2, 1) := by decide +kernel
theorem dX7_hasFours_43 : decode cX7_hasFours 43 = .ok (.bipush 15, 2) := by decide +kernel
theorem dX7_hasFours_45 : decode cX7_hasFours 45 = .ok (.if_icmp .eq 5, 3) := by decide +kernel
theorem dX7_hasFours_48 : decode cX7_hasFours 48 = .ok (.iconst 0, 1) := by decide +kernel
theorem dX7_hasFours_49 : decode cX7_hasFours 49 = .ok (.ireturn, 1) := by decide +kernel
theorem dX7_hasFours_50 : decode cX7_hasFours 50 = .ok (.iinc 1 4, 3) := by decide +kernel
theorem dX7_hasFours_53 : decode cX7_hasFours 53 = .ok (.goto (-51), 3) := by decide +kernel
theorem dX7_hasFours_56 : decode cX7_hasFours 56 = .ok (.iconst 1, 1) := by decide +kernel
theorem dX7_hasFours_57 : decode cX7_hasFours 57 = .ok (.ireturn, 1) := by decide +kernel
theorem dX7_isWhole_0 : decode cX7_isWhole 0 = .ok (.aload_n 0, 1) := by decide +kernel
theorem dX7_isWhole_1 : decode cX7_isWhole 1 = .ok (.getfield 21, 3) := by decide +kernel
theorem dX7_isWhole_4 : decode cX7_isWhole 4 = .ok (.iconst 0, 1) := by decide +kernel
theorem dX7_isWhole_5 : decode cX7_isWhole 5 = .ok (.iaload, 1) := by decide +kernel
theorem dX7_isWhole_6 : decode cX7_isWhole 6 = .ok (.istore_n 1, 1) := by decide +kernel
theorem dX7_isWhole_7 : decode cX7_isWhole 7 = .ok (.iload_n 1, 1) := by decide +kernel
theorem dX7_isWhole_8 : decode cX7_isWhole 8 = .ok (.istore_n 2, 1) := by decide +kernel
theorem dX7_isWhole_9 : decode cX7_isWhole 9 = .ok (.iconst 1, 1) := by decide +kernel
theorem dX7_isWhole_10 : decode cX7_isWhole 10 = .ok (.istore_n 3, 1) := by decide +kernel
theorem dX7_isWhole_11 : decode cX7_isWhole 11 = .ok (.iload_n 3, 1) := by decide +kernel
theorem dX7_isWhole_12 : decode cX7_isWhole 12 = .ok (.aload_n 0, 1) := by decide +kernel
theorem dX7_isWhole_13 : decode cX7_isWhole 13 = .ok (.invokevirtual 29, 3) := by decide +kernel
theorem dX7_isWhole_16 : decode cX7_isWhole 16 = .ok (.if_icmp .ge 40, 3) := by decide +kernel
theorem dX7_isWhole_19 : decode cX7_isWhole 19 = .ok (.iload_n 1, 1) := by decide +kernel
theorem dX7_isWhole_20 : decode cX7_isWhole 20 = .ok (.aload_n 0, 1) := by decide +kernel
theorem dX7_isWhole_21 : decode cX7_isWhole 21 = .ok (.getfield 21, 3) := by decide +kernel
theorem dX7_isWhole_24 : decode cX7_isWhole 24 = .ok (.iload_n 3, 1) := by decide +kernel
theorem dX7_isWhole_25 : decode cX7_isWhole 25 = .ok (.iaload, 1) := by decide +kernel
theorem dX7_isWhole_26 : decode cX7_isWhole 26 = .ok (.invokestatic 76, 3) := by decide +kernel
theorem dX7_isWhole_29 : decode cX7_isWhole 29 = .ok (.istore_n 1, 1) := by decide +kernel
theorem dX7_isWhole_30 : decode cX7_isWhole 30 = .ok (.iload_n 2, 1) := by decide +kernel
theorem dX7_isWhole_31 : decode cX7_isWhole 31 = .ok (.aload_n 0, 1) := by decide +kernel
theorem dX7_isWhole_32 : decode cX7_isWhole 32 = .ok (.getfield 21, 3) := by decide +kernel
theorem dX7_isWhole_35 : decode cX7_isWhole 35 = .ok (.iload_n 3, 1) := by decide +kernel
theorem dX7_isWhole_36 : decode cX7_isWhole 36 = .ok (.iaload, 1) := by decide +kernel
theorem dX7_isWhole_37 : decode cX7_isWhole 37 = .ok (.invokestatic 71, 3) := by decide +kernel
theorem dX7_isWhole_40 : decode cX7_isWhole 40 = .ok (.istore_n 2, 1) := by decide +kernel
theorem dX7_isWhole_41 : decode cX7_isWhole 41 = .ok (.iload_n 2, 1) := by decide +kernel
theorem dX7_isWhole_42 : decode cX7_isWhole 42 = .ok (.iload_n 1, 1) := by decide +kernel
theorem dX7_isWhole_43 : decode cX7_isWhole 43 = .ok (.isub, 1) := by decide +kernel
theorem dX7_isWhole_44 : decode cX7_isWhole 44 = .ok (.iload_n 3, 1) := by decide +kernel
theorem dX7_isWhole_45 : decode cX7_isWhole 45 = .ok (.if_icmp .eq 5, 3) := by decide +kernel
theorem dX7_isWhole_48 : decode cX7_isWhole 48 = .ok (.iconst 0, 1) := by decide +kernel
theorem dX7_isWhole_49 : decode cX7_isWhole 49 = .ok (.ireturn, 1) := by decide +kernel
theorem dX7_isWhole_50 : decode cX7_isWhole 50 = .ok (.iinc 3 1, 3) := by decide +kernel
theorem dX7_isWhole_53 : decode cX7_isWhole 53 = .ok (.goto (-42), 3) := by decide +kernel
theorem dX7_isWhole_56 : decode cX7_isWhole 56 = .ok (.iconst 1, 1) := by decide +kernel
theorem dX7_isWhole_57 : decode cX7_isWhole 57 = .ok (.ireturn, 1) := by decide +kernel
theorem dX7_isMirrored_0 : decode cX7_isMirrored 0 = .ok (.iconst 0, 1) := by decide +kernel
theorem dX7_isMirrored_1 : decode cX7_isMirrored 1 = .ok (.istore_n 1, 1) := by decide +kernel
theorem dX7_isMirrored_2 : decode cX7_isMirrored 2 = .ok (.iload_n 1, 1) := by decide +kernel
theorem dX7_isMirrored_3 : decode cX7_isMirrored 3 = .ok (.aload_n 0, 1) := by decide +kernel
theorem dX7_isMirrored_4 : decode cX7_isMirrored 4 = .ok (.invokevirtual 29, 3) := by decide +kernel
theorem dX7_isMirrored_7 : decode cX7_isMirrored 7 = .ok (.if_icmp .ge 40, 3) := by decide +kernel
theorem dX7_isMirrored_10 : decode cX7_isMirrored 10 = .ok (.aload_n 0, 1) := by decide +kernel
theorem dX7_isMirrored_11 : decode cX7_isMirrored 11 = .ok (.getfield 21, 3) := by decide +kernel
theorem dX7_isMirrored_14 : decode cX7_isMirrored 14 = .ok (.iload_n 1, 1) := by decide +kernel
theorem dX7_isMirrored_15 : decode cX7_isMirrored 15 = .ok (.iaload, 1) := by decide +kernel
theorem dX7_isMirrored_16 : decode cX7_isMirrored 16 = .ok (.aload_n 0, 1) := by decide +kernel
theorem dX7_isMirrored_17 : decode cX7_isMirrored 17 = .ok (.getfield 21, 3) := by decide +kernel
theorem dX7_isMirrored_20 : decode cX7_isMirrored 20 = .ok (.aload_n 0, 1) := by decide +kernel
theorem dX7_isMirrored_21 : decode cX7_isMirrored 21 = .ok (.invokevirtual 29, 3) := by decide +kernel
theorem dX7_isMirrored_24 : decode cX7_isMirrored 24 = .ok (.iconst 1, 1) := by decide +kernel
theorem dX7_isMirrored_25 : decode cX7_isMirrored 25 = .ok (.isub, 1) := by decide +kernel
theorem dX7_isMirrored_26 : decode cX7_isMirrored 26 = .ok (.iload_n 1, 1) := by decide +kernel
theorem dX7_isMirrored_27 : decode cX7_isMirrored 27 = .ok (.isub, 1) := by decide +kernel
theorem dX7_isMirrored_28 : decode cX7_isMirrored 28 = .ok (.iaload, 1) := by decide +kernel
theorem dX7_isMirrored_29 : decode cX7_isMirrored 29 = .ok (.iadd, 1) := by decide +kernel
theorem dX7_isMirrored_30 : decode cX7_isMirrored 30 = .ok (.aload_n 0, 1) := by decide +kernel
theorem dX7_isMirrored_31 : decode cX7_isMirrored 31 = .ok (.invokevirtual 29, 3) := by decide +kernel
theorem dX7_isMirrored_34 : decode cX7_isMirrored 34 = .ok (.iconst 1, 1) := by decide +kernel
theorem dX7_isMirrored_35 : decode cX7_isMirrored 35 = .ok (.isub, 1) := by decide +kernel
theorem dX7_isMirrored_36 : decode cX7_isMirrored 36 = .ok (.if_icmp .eq 5, 3) := by decide +kernel
theorem dX7_isMirrored_39 : decode cX7_isMirrored 39 = .ok (.iconst 0, 1) := by decide +kernel
theorem dX7_isMirrored_40 : decode cX7_isMirrored 40 = .ok (.ireturn, 1) := by decide +kernel
theorem dX7_isMirrored_41 : decode cX7_isMirrored 41 = .ok (.iinc 1 1, 3) := by decide +kernel
theorem dX7_isMirrored_44 : decode cX7_isMirrored 44 = .ok (.goto (-42), 3) := by decide +kernel
theorem dX7_isMirrored_47 : decode cX7_isMirrored 47 = .ok (.iconst 1, 1) := by decide +kernel
theorem dX7_isMirrored_48 : decode cX7_isMirrored 48 = .ok (.ireturn, 1) := by decide +kernel
theorem dX7_isNew_0 : decode cX7_isNew 0 = .ok (.aload_n 0, 1) := by decide +kernel
theorem dX7_isNew_1 : decode cX7_isNew 1 = .ok (.invokevirtual 79, 3) := by decide +kernel
theorem dX7_isNew_4 : decode cX7_isNew 4 = .ok (.ifCond .ne 7, 3) := by decide +kernel
theorem dX7_isNew_7 : decode cX7_isNew 7 = .ok (.iconst 1, 1) := by decide +kernel
theorem dX7_isNew_8 : decode cX7_isNew 8 = .ok (.goto 4, 3) := by decide +kernel
theorem dX7_isNew_11 : decode cX7_isNew 11 = .ok (.iconst 0, 1) := by decide +kernel
theorem dX7_isNew_12 : decode cX7_isNew 12 = .ok (.ireturn, 1) := by decide +kernel
theorem dX8_init_0 : decode cX8_init 0 = .ok (.aload_n 0, 1) := by decide +kernel
theorem dX8_init_1 : decode cX8_init 1 = .ok (.invokespecial 1, 3) := by decide +kernel
theorem dX8_init_4 : decode cX8_init 4 = .ok (.aload_n 0, 1) := by decide +kernel
theorem dX8_init_5 : decode cX8_init 5 = .ok (.iload_n 1, 1) := by decide +kernel
theorem dX8_init_6 : decode cX8_init 6 = .ok (.newarray .int, 2) := by decide +kernel
theorem dX8_init_8 : decode cX8_init 8 = .ok (.putfield 7, 3) := by decide +kernel
theorem dX8_init_11 : decode cX8_init 11 = .ok (.aload_n 0, 1) := by decide +kernel
theorem dX8_init_12 : decode cX8_init 12 = .ok (.iload_n 1, 1) := by decide +kernel
theorem dX8_init_13 : decode cX8_init 13 = .ok (.newarray .boolean, 2) := by decide +kernel
theorem dX8_init_15 : decode cX8_init 15 = .ok (.putfield 13, 3) := by decide +kernel
theorem dX8_init_18 : decode cX8_init 18 = .ok (.iconst 0, 1) := by decide +kernel
theorem dX8_init_19 : decode cX8_init 19 = .ok (.istore_n 2, 1) := by decide +kernel
theorem dX8_init_20 : decode cX8_init 20 = .ok (.iload_n 2, 1) := by decide +kernel
theorem dX8_init_21 : decode cX8_init 21 = .ok (.iload_n 1, 1) := by decide +kernel
theorem dX8_init_22 : decode cX8_init 22 = .ok (.if_icmp .ge 16, 3) := by decide +kernel
theorem dX8_init_25 : decode cX8_init 25 = .ok (.aload_n 0, 1) := by decide +kernel
theorem dX8_init_26 : decode cX8_init 26 = .ok (.getfield 7, 3) := by decide +kernel
theorem dX8_init_29 : decode cX8_init 29 = .ok (.iload_n 2, 1) := by decide +kernel
theorem dX8_init_30 : decode cX8_init 30 = .ok (.iload_n 2, 1) := by decide +kernel
theorem dX8_init_31 : decode cX8_init 31 = .ok (.iastore, 1) := by decide +kernel
theorem dX8_init_32 : decode cX8_init 32 = .ok (.iinc 2 1, 3) := by decide +kernel
theorem dX8_init_35 : decode cX8_init 35 = .ok (.goto (-15), 3) := by decide +kernel
theorem dX8_init_38 : decode cX8_init 38 = .ok (.return_, 1) := by decide +kernel
theorem dX8_then_0 : decode cX8_then 0 = .ok (.aload_n 0, 1) := by decide +kernel
theorem dX8_then_1 : decode cX8_then 1 = .ok (.getfield 7, 3) := by decide +kernel
theorem dX8_then_4 : decode cX8_then 4 = .ok (.arraylength, 1) := by decide +kernel
theorem dX8_then_5 : decode cX8_then 5 = .ok (.istore_n 2, 1) := by decide +kernel
theorem dX8_then_6 : decode cX8_then 6 = .ok (.new 8, 3) := by decide +kernel
theorem dX8_then_9 : decode cX8_then 9 = .ok (.dup, 1) := by decide +kernel
theorem dX8_then_10 : decode cX8_then 10 = .ok (.iload_n 2, 1) := by decide +kernel
theorem dX8_then_11 : decode cX8_then 11 = .ok (.invokespecial 17, 3) := by decide +kernel
theorem dX8_then_14 : decode cX8_then 14 = .ok (.astore_n 3, 1) := by decide +kernel
theorem dX8_then_15 : decode cX8_then 15 = .ok (.iconst 0, 1) := by decide +kernel
theorem dX8_then_16 : decode cX8_then 16 = .ok (.istore 4, 2) := by decide +kernel
theorem dX8_then_18 : decode cX8_then 18 = .ok (.iload 4, 2) := by decide +kernel
theorem dX8_then_20 : decode cX8_then 20 = .ok (.iload_n 2, 1) := by decide +kernel
theorem dX8_then_21 : decode cX8_then 21 = .ok (.if_icmp .ge 62, 3) := by decide +kernel
theorem dX8_then_24 : decode cX8_then 24 = .ok (.aload_n 3, 1) := by decide +kernel
theorem dX8_then_25 : decode cX8_then 25 = .ok (.getfield 7, 3) := by decide +kernel
theorem dX8_then_28 : decode cX8_then 28 = .ok (.iload 4, 2) := by decide +kernel
theorem dX8_then_30 : decode cX8_then 30 = .ok (.aload_n 0, 1) := by decide +kernel
theorem dX8_then_31 : decode cX8_then 31 = .ok (.getfield 7, 3) := by decide +kernel
theorem dX8_then_34 : decode cX8_then 34 = .ok (.aload_n 1, 1) := by decide +kernel
theorem dX8_then_35 : decode cX8_then 35 = .ok (.getfield 7, 3) := by decide +kernel
theorem dX8_then_38 : decode cX8_then 38 = .ok (.iload 4, 2) := by decide +kernel
theorem dX8_then_40 : decode cX8_then 40 = .ok (.iaload, 1) := by decide +kernel
theorem dX8_then_41 : decode cX8_then 41 = .ok (.iaload, 1) := by decide +kernel
theorem dX8_then_42 : decode cX8_then 42 = .ok (.iastore, 1) := by decide +kernel
theorem dX8_then_43 : decode cX8_then 43 = .ok (.aload_n 3, 1) := by decide +kernel
theorem dX8_then_44 : decode cX8_then 44 = .ok (.getfield 13, 3) := by decide +kernel
theorem dX8_then_47 : decode cX8_then 47 = .ok (.iload 4, 2) := by decide +kernel
theorem dX8_then_49 : decode cX8_then 49 = .ok (.aload_n 0, 1) := by decide +kernel
theorem dX8_then_50 : decode cX8_then 50 = .ok (.getfield 13, 3) := by decide +kernel
theorem dX8_then_53 : decode cX8_then 53 = .ok (.aload_n 1, 1) := by decide +kernel
theorem dX8_then_54 : decode cX8_then 54 = .ok (.getfield 7, 3) := by decide +kernel
theorem dX8_then_57 : decode cX8_then 57 = .ok (.iload 4, 2) := by decide +kernel
theorem dX8_then_59 : decode cX8_then 59 = .ok (.iaload, 1) := by decide +kernel
theorem dX8_then_60 : decode cX8_then 60 = .ok (.baload, 1) := by decide +kernel
theorem dX8_then_61 : decode cX8_then 61 = .ok (.aload_n 1, 1) := by decide +kernel
theorem dX8_then_62 : decode cX8_then 62 = .ok (.getfield 13, 3) := by decide +kernel
theorem dX8_then_65 : decode cX8_then 65 = .ok (.iload 4, 2) := by decide +kernel
theorem dX8_then_67 : decode cX8_then 67 = .ok (.baload, 1) := by decide +kernel
theorem dX8_then_68 : decode cX8_then 68 = .ok (.if_icmp .eq 7, 3) := by decide +kernel
theorem dX8_then_71 : decode cX8_then 71 = .ok (.iconst 1, 1) := by decide +kernel
theorem dX8_then_72 : decode cX8_then 72 = .ok (.goto 4, 3) := by decide +kernel
theorem dX8_then_75 : decode cX8_then 75 = .ok (.iconst 0, 1) := by decide +kernel
theorem dX8_then_76 : decode cX8_then 76 = .ok (.bastore, 1) := by decide +kernel
theorem dX8_then_77 : decode cX8_then 77 = .ok (.iinc 4 1, 3) := by decide +kernel
theorem dX8_then_80 : decode cX8_then 80 = .ok (.goto (-62), 3) := by decide +kernel
theorem dX8_then_83 : decode cX8_then 83 = .ok (.aload_n 3, 1) := by decide +kernel
theorem dX8_then_84 : decode cX8_then 84 = .ok (.areturn, 1) := by decide +kernel
theorem dX8_often_0 : decode cX8_often 0 = .ok (.new 8, 3) := by decide +kernel
theorem dX8_often_3 : decode cX8_often 3 = .ok (.dup, 1) := by decide +kernel
theorem dX8_often_4 : decode cX8_often 4 = .ok (.aload_n 0, 1) := by decide +kernel
theorem dX8_often_5 : decode cX8_often 5 = .ok (.getfield 7, 3) := by decide +kernel
theorem dX8_often_8 : decode cX8_often 8 = .ok (.arraylength, 1) := by decide +kernel
theorem dX8_often_9 : decode cX8_often 9 = .ok (.invokespecial 17, 3) := by decide +kernel
theorem dX8_often_12 : decode cX8_often 12 = .ok (.astore_n 2, 1) := by decide +kernel
theorem dX8_often_13 : decode cX8_often 13 = .ok (.aload_n 0, 1) := by decide +kernel
theorem dX8_often_14 : decode cX8_often 14 = .ok (.astore_n 3, 1) := by decide +kernel
theorem dX8_often_15 : decode cX8_often 15 = .ok (.iload_n 1, 1) := by decide +kernel
theorem dX8_often_16 : decode cX8_often 16 = .ok (.istore 4, 2) := by decide +kernel
theorem dX8_often_18 : decode cX8_often 18 = .ok (.iload 4, 2) := by decide +kernel
theorem dX8_often_20 : decode cX8_often 20 = .ok (.ifCond .le 32, 3) := by decide +kernel
theorem dX8_often_23 : decode cX8_often 23 = .ok (.iload 4, 2) := by decide +kernel
theorem dX8_often_25 : decode cX8_often 25 = .ok (.iconst 2, 1) := by decide +kernel
theorem dX8_often_26 : decode cX8_often 26 = .ok (.irem, 1) := by decide +kernel
theorem dX8_often_27 : decode cX8_often 27 = .ok (.iconst 1, 1) := by decide +kernel
theorem dX8_often_28 : decode cX8_often 28 = .ok (.if_icmp .ne 9, 3) := by decide +kernel
theorem dX8_often_31 : decode cX8_often 31 = .ok (.aload_n 2, 1) := by decide +kernel
theorem dX8_often_32 : decode cX8_often 32 = .ok (.aload_n 3, 1) := by decide +kernel
theorem dX8_often_33 : decode cX8_often 33 = .ok (.invokevirtual 20, 3) := by decide +kernel
theorem dX8_often_36 : decode cX8_often 36 = .ok (.astore_n 2, 1) := by decide +kernel
theorem dX8_often_37 : decode cX8_often 37 = .ok (.aload_n 3, 1) := by decide +kernel
theorem dX8_often_38 : decode cX8_often 38 = .ok (.aload_n 3, 1) := by decide +kernel
theorem dX8_often_39 : decode cX8_often 39 = .ok (.invokevirtual 20, 3) := by decide +kernel
theorem dX8_often_42 : decode cX8_often 42 = .ok (.astore_n 3, 1) := by decide +kernel
theorem dX8_often_43 : decode cX8_often 43 = .ok (.iload 4, 2) := by decide +kernel
theorem dX8_often_45 : decode cX8_often 45 = .ok (.iconst 2, 1) := by decide +kernel
theorem dX8_often_46 : decode cX8_often 46 = .ok (.idiv, 1) := by decide +kernel
theorem dX8_often_47 : decode cX8_often 47 = .ok (.istore 4, 2) := by decide +kernel
theorem dX8_often_49 : decode cX8_often 49 = .ok (.goto (-31), 3) := by decide +kernel
theorem dX8_often_52 : decode cX8_often 52 = .ok (.aload_n 2, 1) := by decide +kernel
theorem dX8_often_53 : decode cX8_often 53 = .ok (.areturn, 1) := by decide +kernel
theorem dX8_to_0 : decode cX8_to 0 = .ok (.iconst 0, 1) := by decide +kernel
theorem dX8_to_1 : decode cX8_to 1 = .ok (.istore_n 2, 1) := by decide +kernel
theorem dX8_to_2 : decode cX8_to 2 = .ok (.aload_n 0, 1) := by decide +kernel
theorem dX8_to_3 : decode cX8_to 3 = .ok (.getfield 7, 3) := by decide +kernel
theorem dX8_to_6 : decode cX8_to 6 = .ok (.iload_n 2, 1) := by decide +kernel
theorem dX8_to_7 : decode cX8_to 7 = .ok (.iaload, 1) := by decide +kernel
theorem dX8_to_8 : decode cX8_to 8 = .ok (.iload_n 1, 1) := by decide +kernel
theorem dX8_to_9 : decode cX8_to 9 = .ok (.if_icmp .eq 9, 3) := by decide +kernel
theorem dX8_to_12 : decode cX8_to 12 = .ok (.iinc 2 1, 3) := by decide +kernel
theorem dX8_to_15 : decode cX8_to 15 = .ok (.goto (-13), 3) := by decide +kernel
theorem dX8_to_18 : decode cX8_to 18 = .ok (.iload_n 2, 1) := by decide +kernel
theorem dX8_to_19 : decode cX8_to 19 = .ok (.ireturn, 1) := by decide +kernel
theorem dX8_isStill_0 : decode cX8_isStill 0 = .ok (.iconst 0, 1) := by decide +kernel
theorem dX8_isStill_1 : decode cX8_isStill 1 = .ok (.istore_n 1, 1) := by decide +kernel
theorem dX8_isStill_2 : decode cX8_isStill 2 = .ok (.iload_n 1, 1) := by decide +kernel
theorem dX8_isStill_3 : decode cX8_isStill 3 = .ok (.aload_n 0, 1) := by decide +kernel
theorem dX8_isStill_4 : decode cX8_isStill 4 = .ok (.getfield 7, 3) := by decide +kernel
theorem dX8_isStill_7 : decode cX8_isStill 7 = .ok (.arraylength, 1) := by decide +kernel
theorem dX8_isStill_8 : decode cX8_isStill 8 = .ok (.if_icmp .ge 30, 3) := by decide +kernel
theorem dX8_isStill_11 : decode cX8_isStill 11 = .ok (.aload_n 0, 1) := by decide +kernel
theorem dX8_isStill_12 : decode cX8_isStill 12 = .ok (.getfield 7, 3) := by decide +kernel
theorem dX8_isStill_15 : decode cX8_isStill 15 = .ok (.iload_n 1, 1) := by decide +kernel
theorem dX8_isStill_16 : decode cX8_isStill 16 = .ok (.iaload, 1) := by decide +kernel
theorem dX8_isStill_17 : decode cX8_isStill 17 = .ok (.iload_n 1, 1) := by decide +kernel
theorem dX8_isStill_18 : decode cX8_isStill 18 = .ok (.if_icmp .ne 12, 3) := by decide +kernel
theorem dX8_isStill_21 : decode cX8_isStill 21 = .ok (.aload_n 0, 1) := by decide +kernel
theorem dX8_isStill_22 : decode cX8_isStill 22 = .ok (.getfield 13, 3) := by decide +kernel
theorem dX8_isStill_25 : decode cX8_isStill 25 = .ok (.iload_n 1, 1) := by decide +kernel
theorem dX8_isStill_26 : decode cX8_isStill 26 = .ok (.baload, 1) := by decide +kernel
theorem dX8_isStill_27 : decode cX8_isStill 27 = .ok (.ifCond .eq 5, 3) := by decide +kernel
theorem dX8_isStill_30 : decode cX8_isStill 30 = .ok (.iconst 0, 1) := by decide +kernel
theorem dX8_isStill_31 : decode cX8_isStill 31 = .ok (.ireturn, 1) := by decide +kernel
theorem dX8_isStill_32 : decode cX8_isStill 32 = .ok (.iinc 1 1, 3) := by decide +kernel
theorem dX8_isStill_35 : decode cX8_isStill 35 = .ok (.goto (-33), 3) := by decide +kernel
theorem dX8_isStill_38 : decode cX8_isStill 38 = .ok (.iconst 1, 1) := by decide +kernel
theorem dX8_isStill_39 : decode cX8_isStill 39 = .ok (.ireturn, 1) := by decide +kernel
theorem dX9_init_0 : decode cX9_init 0 = .ok (.aload_n 0, 1) := by decide +kernel
theorem dX9_init_1 : decode cX9_init 1 = .ok (.invokespecial 1, 3) := by decide +kernel
theorem dX9_init_4 : decode cX9_init 4 = .ok (.aload_n 0, 1) := by decide +kernel
theorem dX9_init_5 : decode cX9_init 5 = .ok (.new 7, 3) := by decide +kernel
theorem dX9_init_8 : decode cX9_init 8 = .ok (.dup, 1) := by decide +kernel
theorem dX9_init_9 : decode cX9_init 9 = .ok (.invokespecial 9, 3) := by decide +kernel
theorem dX9_init_12 : decode cX9_init 12 = .ok (.putfield 10, 3) := by decide +kernel
theorem dX9_init_15 : decode cX9_init 15 = .ok (.aload_n 0, 1) := by decide +kernel
theorem dX9_init_16 : decode cX9_init 16 = .ok (.new 7, 3) := by decide +kernel
theorem dX9_init_19 : decode cX9_init 19 = .ok (.dup, 1) := by decide +kernel
theorem dX9_init_20 : decode cX9_init 20 = .ok (.invokespecial 9, 3) := by decide +kernel
theorem dX9_init_23 : decode cX9_init 23 = .ok (.putfield 16, 3) := by decide +kernel
theorem dX9_init_26 : decode cX9_init 26 = .ok (.return_, 1) := by decide +kernel
theorem dX9_thrown_0 : decode cX9_thrown 0 = .ok (.aload_n 0, 1) := by decide +kernel
theorem dX9_thrown_1 : decode cX9_thrown 1 = .ok (.getfield 19, 3) := by decide +kernel
theorem dX9_thrown_4 : decode cX9_thrown 4 = .ok (.ireturn, 1) := by decide +kernel
theorem dX9_refuse_0 : decode cX9_refuse 0 = .ok (.aload_n 0, 1) := by decide +kernel
theorem dX9_refuse_1 : decode cX9_refuse 1 = .ok (.iload_n 1, 1) := by decide +kernel
theorem dX9_refuse_2 : decode cX9_refuse 2 = .ok (.putfield 19, 3) := by decide +kernel
theorem dX9_refuse_5 : decode cX9_refuse 5 = .ok (.iconst 0, 1) := by decide +kernel
theorem dX9_refuse_6 : decode cX9_refuse 6 = .ok (.ireturn, 1) := by decide +kernel
theorem dX9_is_0 : decode cX9_is 0 = .ok (.iload_n 0, 1) := by decide +kernel
theorem dX9_is_1 : decode cX9_is 1 = .ok (.iload_n 1, 1) := by decide +kernel
theorem dX9_is_2 : decode cX9_is 2 = .ok (.if_icmp .lt 12, 3) := by decide +kernel
theorem dX9_is_5 : decode cX9_is 5 = .ok (.iload_n 0, 1) := by decide +kernel
theorem dX9_is_6 : decode cX9_is 6 = .ok (.iload_n 2, 1) := by decide +kernel
theorem dX9_is_7 : decode cX9_is 7 = .ok (.if_icmp .gt 7, 3) := by decide +kernel
theorem dX9_is_10 : decode cX9_is 10 = .ok (.iconst 1, 1) := by decide +kernel
theorem dX9_is_11 : decode cX9_is 11 = .ok (.goto 4, 3) := by decide +kernel
theorem dX9_is_14 : decode cX9_is 14 = .ok (.iconst 0, 1) := by decide +kernel
theorem dX9_is_15 : decode cX9_is 15 = .ok (.ireturn, 1) := by decide +kernel
theorem dX9_isShuffle_0 : decode cX9_isShuffle 0 = .ok (.iload_n 0, 1) := by decide +kernel
theorem dX9_isShuffle_1 : decode cX9_isShuffle 1 = .ok (.tableswitch 128 0 9 #[55, 64, 64, 80, 80, 90, 97, 97, 104, 115], 55) := by decide +kernel
theorem dX9_isShuffle_56 : decode cX9_isShuffle 56 = .ok (.iload_n 1, 1) := by decide +kernel
theorem dX9_isShuffle_57 : decode cX9_isShuffle 57 = .ok (.iconst 0, 1) := by decide +kernel
theorem dX9_isShuffle_58 : decode cX9_isShuffle 58 = .ok (.iload_n 2, 1) := by decide +kernel
theorem dX9_isShuffle_59 : decode cX9_isShuffle 59 = .ok (.iconst 1, 1) := by decide +kernel
theorem dX9_isShuffle_60 : decode cX9_isShuffle 60 = .ok (.isub, 1) := by decide +kernel
theorem dX9_isShuffle_61 : decode cX9_isShuffle 61 = .ok (.invokestatic 23, 3) := by decide +kernel
theorem dX9_isShuffle_64 : decode cX9_isShuffle 64 = .ok (.ireturn, 1) := by decide +kernel
theorem dX9_isShuffle_65 : decode cX9_isShuffle 65 = .ok (.iload_n 1, 1) := by decide +kernel
theorem dX9_isShuffle_66 : decode cX9_isShuffle 66 = .ok (.ifCond .ne 13, 3) := by decide +kernel
theorem dX9_isShuffle_69 : decode cX9_isShuffle 69 = .ok (.iload_n 2, 1) := by decide +kernel
theorem dX9_isShuffle_70 : decode cX9_isShuffle 70 = .ok (.iconst 2, 1) := by decide +kernel
theorem dX9_isShuffle_71 : decode cX9_isShuffle 71 = .ok (.irem, 1) := by decide +kernel
theorem dX9_isShuffle_72 : decode cX9_isShuffle 72 = .ok (.ifCond .ne 7, 3) := by decide +kernel
theorem dX9_isShuffle_75 : decode cX9_isShuffle 75 = .ok (.iconst 1, 1) := by decide +kernel
theorem dX9_isShuffle_76 : decode cX9_isShuffle 76 = .ok (.goto 4, 3) := by decide +kernel
theorem dX9_isShuffle_79 : decode cX9_isShuffle 79 = .ok (.iconst 0, 1) := by decide +kernel
theorem dX9_isShuffle_80 : decode cX9_isShuffle 80 = .ok (.ireturn, 1) := by decide +kernel
theorem dX9_isShuffle_81 : decode cX9_isShuffle 81 = .ok (.iload_n 1, 1) := by decide +kernel
theorem dX9_isShuffle_82 : decode cX9_isShuffle 82 = .ok (.ifCond .ne 7, 3) := by decide +kernel
theorem dX9_isShuffle_85 : decode cX9_isShuffle 85 = .ok (.iconst 1, 1) := by decide +kernel
theorem dX9_isShuffle_86 : decode cX9_isShuffle 86 = .ok (.goto 4, 3) := by decide +kernel
theorem dX9_isShuffle_89 : decode cX9_isShuffle 89 = .ok (.iconst 0, 1) := by decide +kernel
theorem dX9_isShuffle_90 : decode cX9_isShuffle 90 = .ok (.ireturn, 1) := by decide +kernel
theorem dX9_isShuffle_91 : decode cX9_isShuffle 91 = .ok (.iload_n 1, 1) := by decide +kernel
theorem dX9_isShuffle_92 : decode cX9_isShuffle 92 = .ok (.iconst 2, 1) := by decide +kernel
theorem dX9_isShuffle_93 : decode cX9_isShuffle 93 = .ok (.iconst 4, 1) := by decide +kernel
theorem dX9_isShuffle_94 : decode cX9_isShuffle 94 = .ok (.invokestatic 23, 3) := by decide +kernel
theorem dX9_isShuffle_97 : decode cX9_isShuffle 97 = .ok (.ireturn, 1) := by decide +kernel
theorem dX9_isShuffle_98 : decode cX9_isShuffle 98 = .ok (.iload_n 1, 1) := by decide +kernel
theorem dX9_isShuffle_99 : decode cX9_isShuffle 99 = .ok (.iconst 0, 1) := by decide +kernel
theorem dX9_isShuffle_100 : decode cX9_isShuffle 100 = .ok (.iload_n 2, 1) := by decide +kernel
theorem dX9_isShuffle_101 : decode cX9_isShuffle 101 = .ok (.invokestatic 23, 3) := by decide +kernel
theorem dX9_isShuffle_104 : decode cX9_isShuffle 104 = .ok (.ireturn, 1) := by decide +kernel
theorem dX9_isShuffle_105 : decode cX9_isShuffle 105 = .ok (.iload_n 1, 1) := by decide +kernel
theorem dX9_isShuffle_106 : decode cX9_isShuffle 106 = .ok (.iconst 0, 1) := by decide +kernel
theorem dX9_isShuffle_107 : decode cX9_isShuffle 107 = .ok (.iconst 1, 1) := by decide +kernel
theorem dX9_isShuffle_108 : decode cX9_isShuffle 108 = .ok (.iload_n 2, 1) := by decide +kernel
theorem dX9_isShuffle_109 : decode cX9_isShuffle 109 = .ok (.ishl, 1) := by decide +kernel
theorem dX9_isShuffle_110 : decode cX9_isShuffle 110 = .ok (.iconst 1, 1) := by decide +kernel
theorem dX9_isShuffle_111 : decode cX9_isShuffle 111 = .ok (.isub, 1) := by decide +kernel
theorem dX9_isShuffle_112 : decode cX9_isShuffle 112 = .ok (.invokestatic 23, 3) := by decide +kernel
theorem dX9_isShuffle_115 : decode cX9_isShuffle 115 = .ok (.ireturn, 1) := by decide +kernel
theorem dX9_isShuffle_116 : decode cX9_isShuffle 116 = .ok (.iload_n 1, 1) := by decide +kernel
theorem dX9_isShuffle_117 : decode cX9_isShuffle 117 = .ok (.iconst 0, 1) := by decide +kernel
theorem dX9_isShuffle_118 : decode cX9_isShuffle 118 = .ok (.iconst 1, 1) := by decide +kernel
theorem dX9_isShuffle_119 : decode cX9_isShuffle 119 = .ok (.iload_n 2, 1) := by decide +kernel
theorem dX9_isShuffle_120 : decode cX9_isShuffle 120 = .ok (.iconst 1, 1) := by decide +kernel
theorem dX9_isShuffle_121 : decode cX9_isShuffle 121 = .ok (.isub, 1) := by decide +kernel
theorem dX9_isShuffle_122 : decode cX9_isShuffle 122 = .ok (.ishl, 1) := by decide +kernel
theorem dX9_isShuffle_123 : decode cX9_isShuffle 123 = .ok (.iconst 1, 1) := by decide +kernel
theorem dX9_isShuffle_124 : decode cX9_isShuffle 124 = .ok (.isub, 1) := by decide +kernel
theorem dX9_isShuffle_125 : decode cX9_isShuffle 125 = .ok (.invokestatic 23, 3) := by decide +kernel
theorem dX9_isShuffle_128 : decode cX9_isShuffle 128 = .ok (.ireturn, 1) := by decide +kernel
theorem dX9_isShuffle_129 : decode cX9_isShuffle 129 = .ok (.iconst 0, 1) := by decide +kernel
theorem dX9_isShuffle_130 : decode cX9_isShuffle 130 = .ok (.ireturn, 1) := by decide +kernel
theorem dX9_way_0 : decode cX9_way 0 = .ok (.new 27, 3) := by decide +kernel
theorem dX9_way_3 : decode cX9_way 3 = .ok (.dup, 1) := by decide +kernel
theorem dX9_way_4 : decode cX9_way 4 = .ok (.iload_n 2, 1) := by decide +kernel
theorem dX9_way_5 : decode cX9_way 5 = .ok (.invokespecial 29, 3) := by decide +kernel
theorem dX9_way_8 : decode cX9_way 8 = .ok (.astore_n 3, 1) := by decide +kernel
theorem dX9_way_9 : decode cX9_way 9 = .ok (.aload_n 3, 1) := by decide +kernel
theorem dX9_way_10 : decode cX9_way 10 = .ok (.getfield 32, 3) := by decide +kernel
theorem dX9_way_13 : decode cX9_way 13 = .ok (.astore 4, 2) := by decide +kernel
theorem dX9_way_15 : decode cX9_way 15 = .ok (.iload_n 0, 1) := by decide +kernel
theorem dX9_way_16 : decode cX9_way 16 = .ok (.tableswitch 436 0 8 #[52, 80, 80, 144, 198, 256, 314, 314, 360], 52) := by decide +kernel
theorem dX9_way_68 : decode cX9_way 68 = .ok (.iconst 0, 1) := by decide +kernel
theorem dX9_way_69 : decode cX9_way 69 = .ok (.istore 5, 2) := by decide +kernel
theorem dX9_way_71 : decode cX9_way 71 = .ok (.iload 5, 2) := by decide +kernel
theorem dX9_way_73 : decode cX9_way 73 = .ok (.iload_n 2, 1) := by decide +kernel
theorem dX9_way_74 : decode cX9_way 74 = .ok (.if_icmp .ge 20, 3) := by decide +kernel
theorem dX9_way_77 : decode cX9_way 77 = .ok (.aload 4, 2) := by decide +kernel
theorem dX9_way_79 : decode cX9_way 79 = .ok (.iload 5, 2) := by decide +kernel
theorem dX9_way_81 : decode cX9_way 81 = .ok (.iload 5, 2) := by decide +kernel
theorem dX9_way_83 : decode cX9_way 83 = .ok (.iload_n 1, 1) := by decide +kernel
theorem dX9_way_84 : decode cX9_way 84 = .ok (.iadd, 1) := by decide +kernel
theorem dX9_way_85 : decode cX9_way 85 = .ok (.iload_n 2, 1) := by decide +kernel
theorem dX9_way_86 : decode cX9_way 86 = .ok (.irem, 1) := by decide +kernel
theorem dX9_way_87 : decode cX9_way 87 = .ok (.iastore, 1) := by decide +kernel
theorem dX9_way_88 : decode cX9_way 88 = .ok (.iinc 5 1, 3) := by decide +kernel
theorem dX9_way_91 : decode cX9_way 91 = .ok (.goto (-20), 3) := by decide +kernel
theorem dX9_way_94 : decode cX9_way 94 = .ok (.aload_n 3, 1) := by decide +kernel
theorem dX9_way_95 : decode cX9_way 95 = .ok (.areturn, 1) := by decide +kernel
theorem dX9_way_96 : decode cX9_way 96 = .ok (.iload_n 0, 1) := by decide +kernel
theorem dX9_way_97 : decode cX9_way 97 = .ok (.iconst 1, 1) := by decide +kernel
theorem dX9_way_98 : decode cX9_way 98 = .ok (.if_icmp .ne 7, 3) := by decide +kernel
theorem dX9_way_101 : decode cX9_way 101 = .ok (.iconst 0, 1) := by decide +kernel
theorem dX9_way_102 : decode cX9_way 102 = .ok (.goto 6, 3) := by decide +kernel
theorem dX9_way_105 : decode cX9_way 105 = .ok (.iload_n 2, 1) := by decide +kernel
theorem dX9_way_106 : decode cX9_way 106 = .ok (.iconst 2, 1) := by decide +kernel
theorem dX9_way_107 : decode cX9_way 107 = .ok (.idiv, 1) := by decide +kernel
theorem dX9_way_108 : decode cX9_way 108 = .ok (.istore 5, 2) := by decide +kernel
theorem dX9_way_110 : decode cX9_way 110 = .ok (.iconst 0, 1) := by decide +kernel
theorem dX9_way_111 : decode cX9_way 111 = .ok (.istore 6, 2) := by decide +kernel
theorem dX9_way_113 : decode cX9_way 113 = .ok (.iload 6, 2) := by decide +kernel
theorem dX9_way_115 : decode cX9_way 115 = .ok (.iload_n 2, 1) := by decide +kernel
theorem dX9_way_116 : decode cX9_way 116 = .ok (.if_icmp .ge 42, 3) := by decide +kernel
theorem dX9_way_119 : decode cX9_way 119 = .ok (.aload 4, 2) := by decide +kernel
theorem dX9_way_121 : decode cX9_way 121 = .ok (.iload 6, 2) := by decide +kernel
theorem dX9_way_123 : decode cX9_way 123 = .ok (.iload 6, 2) := by decide +kernel
theorem dX9_way_125 : decode cX9_way 125 = .ok (.iconst 2, 1) := by decide +kernel
theorem dX9_way_126 : decode cX9_way 126 = .ok (.irem, 1) := by decide +kernel
theorem dX9_way_127 : decode cX9_way 127 = .ok (.ifCond .ne 13, 3) := by decide +kernel
theorem dX9_way_130 : decode cX9_way 130 = .ok (.iload 5, 2) := by decide +kernel
theorem dX9_way_132 : decode cX9_way 132 = .ok (.iload 6, 2) := by decide +kernel
theorem dX9_way_134 : decode cX9_way 134 = .ok (.iconst 2, 1) := by decide +kernel
theorem dX9_way_135 : decode cX9_way 135 = .ok (.idiv, 1) := by decide +kernel
theorem dX9_way_136 : decode cX9_way 136 = .ok (.iadd, 1) := by decide +kernel
theorem dX9_way_137 : decode cX9_way 137 = .ok (.goto 14, 3) := by decide +kernel
theorem dX9_way_140 : decode cX9_way 140 = .ok (.iload_n 2, 1) := by decide +kernel
theorem dX9_way_141 : decode cX9_way 141 = .ok (.iconst 2, 1) := by decide +kernel
theorem dX9_way_142 : decode cX9_way 142 = .ok (.idiv, 1) := by decide +kernel
theorem dX9_way_143 : decode cX9_way 143 = .ok (.iload 5, 2) := by decide +kernel
theorem dX9_way_145 : decode cX9_way 145 = .ok (.isub, 1) := by decide +kernel
theorem dX9_way_146 : decode cX9_way 146 = .ok (.iload 6, 2) := by decide +kernel
theorem dX9_way_148 : decode cX9_way 148 = .ok (.iconst 2, 1) := by decide +kernel
theorem dX9_way_149 : decode cX9_way 149 = .ok (.idiv, 1) := by decide +kernel
theorem dX9_way_150 : decode cX9_way 150 = .ok (.iadd, 1) := by decide +kernel
theorem dX9_way_151 : decode cX9_way 151 = .ok (.iastore, 1) := by decide +kernel
theorem dX9_way_152 : decode cX9_way 152 = .ok (.iinc 6 1, 3) := by decide +kernel
theorem dX9_way_155 : decode cX9_way 155 = .ok (.goto (-42), 3) := by decide +kernel
theorem dX9_way_158 : decode cX9_way 158 = .ok (.aload_n 3, 1) := by decide +kernel
theorem dX9_way_159 : decode cX9_way 159 = .ok (.areturn, 1) := by decide +kernel
theorem dX9_way_160 : decode cX9_way 160 = .ok (.iload_n 2, 1) := by decide +kernel
theorem dX9_way_161 : decode cX9_way 161 = .ok (.iconst 2, 1) := by decide +kernel
theorem dX9_way_162 : decode cX9_way 162 = .ok (.idiv, 1) := by decide +kernel
theorem dX9_way_163 : decode cX9_way 163 = .ok (.istore 5, 2) := by decide +kernel
theorem dX9_way_165 : decode cX9_way 165 = .ok (.iconst 0, 1) := by decide +kernel
theorem dX9_way_166 : decode cX9_way 166 = .ok (.istore 6, 2) := by decide +kernel
theorem dX9_way_168 : decode cX9_way 168 = .ok (.iload 6, 2) := by decide +kernel
theorem dX9_way_170 : decode cX9_way 170 = .ok (.iload_n 2, 1) := by decide +kernel
theorem dX9_way_171 : decode cX9_way 171 = .ok (.if_icmp .ge 41, 3) := by decide +kernel
theorem dX9_way_174 : decode cX9_way 174 = .ok (.aload 4, 2) := by decide +kernel
theorem dX9_way_176 : decode cX9_way 176 = .ok (.iload 6, 2) := by decide +kernel
theorem dX9_way_178 : decode cX9_way 178 = .ok (.iconst 2, 1) := by decide +kernel
theorem dX9_way_179 : decode cX9_way 179 = .ok (.irem, 1) := by decide +kernel
theorem dX9_way_180 : decode cX9_way 180 = .ok (.iconst 1, 1) := by decide +kernel
theorem dX9_way_181 : decode cX9_way 181 = .ok (.if_icmp .ne 15, 3) := by decide +kernel
theorem dX9_way_184 : decode cX9_way 184 = .ok (.iload 5, 2) := by decide +kernel
theorem dX9_way_186 : decode cX9_way 186 = .ok (.iconst 1, 1) := by decide +kernel
theorem dX9_way_187 : decode cX9_way 187 = .ok (.isub, 1) := by decide +kernel
theorem dX9_way_188 : decode cX9_way 188 = .ok (.iload 6, 2) := by decide +kernel
theorem dX9_way_190 : decode cX9_way 190 = .ok (.iconst 2, 1) := by decide +kernel
theorem dX9_way_191 : decode cX9_way 191 = .ok (.idiv, 1) := by decide +kernel
theorem dX9_way_192 : decode cX9_way 192 = .ok (.isub, 1) := by decide +kernel
theorem dX9_way_193 : decode cX9_way 193 = .ok (.goto 10, 3) := by decide +kernel
theorem dX9_way_196 : decode cX9_way 196 = .ok (.iload 5, 2) := by decide +kernel
theorem dX9_way_198 : decode cX9_way 198 = .ok (.iload 6, 2) := by decide +kernel
theorem dX9_way_200 : decode cX9_way 200 = .ok (.iconst 2, 1) := by decide +kernel
theorem dX9_way_201 : decode cX9_way 201 = .ok (.idiv, 1) := by decide +kernel
theorem dX9_way_202 : decode cX9_way 202 = .ok (.iadd, 1) := by decide +kernel
theorem dX9_way_203 : decode cX9_way 203 = .ok (.iload 6, 2) := by decide +kernel
theorem dX9_way_205 : decode cX9_way 205 = .ok (.iastore, 1) := by decide +kernel
theorem dX9_way_206 : decode cX9_way 206 = .ok (.iinc 6 1, 3) := by decide +kernel
theorem dX9_way_209 : decode cX9_way 209 = .ok (.goto (-41), 3) := by decide +kernel
theorem dX9_way_212 : decode cX9_way 212 = .ok (.aload_n 3, 1) := by decide +kernel
theorem dX9_way_213 : decode cX9_way 213 = .ok (.areturn, 1) := by decide +kernel
theorem dX9_way_214 : decode cX9_way 214 = .ok (.iload_n 2, 1) := by decide +kernel
theorem dX9_way_215 : decode cX9_way 215 = .ok (.istore 5, 2) := by decide +kernel
theorem dX9_way_217 : decode cX9_way 217 = .ok (.iconst 0, 1) := by decide +kernel
theorem dX9_way_218 : decode cX9_way 218 = .ok (.istore 6, 2) := by decide +kernel
theorem dX9_way_220 : decode cX9_way 220 = .ok (.iload 6, 2) := by decide +kernel
theorem dX9_way_222 : decode cX9_way 222 = .ok (.iload_n 2, 1) := by decide +kernel
theorem dX9_way_223 : decode cX9_way 223 = .ok (.iconst 2, 1) := by decide +kernel
theorem dX9_way_224 : decode cX9_way 224 = .ok (.idiv, 1) := by decide +kernel
theorem dX9_way_225 : decode cX9_way 225 = .ok (.if_icmp .ge 32, 3) := by decide +kernel
theorem dX9_way_228 : decode cX9_way 228 = .ok (.iinc 5 (-2), 3) := by decide +kernel
theorem dX9_way_231 : decode cX9_way 231 = .ok (.aload 4, 2) := by decide +kernel
theorem dX9_way_233 : decode cX9_way 233 = .ok (.iload 5, 2) := by decide +kernel
theorem dX9_way_235 : decode cX9_way 235 = .ok (.iload 6, 2) := by decide +kernel
theorem dX9_way_237 : decode cX9_way 237 = .ok (.iastore, 1) := by decide +kernel
theorem dX9_way_238 : decode cX9_way 238 = .ok (.aload 4, 2) := by decide +kernel
theorem dX9_way_240 : decode cX9_way 240 = .ok (.iload 5, 2) := by decide +kernel
theorem dX9_way_242 : decode cX9_way 242 = .ok (.iconst 1, 1) := by decide +kernel
theorem dX9_way_243 : decode cX9_way 243 = .ok (.iadd, 1) := by decide +kernel
theorem dX9_way_244 : decode cX9_way 244 = .ok (.iload_n 2, 1) := by decide +kernel
theorem dX9_way_245 : decode cX9_way 245 = .ok (.iconst 1, 1) := by decide +kernel
theorem dX9_way_246 : decode cX9_way 246 = .ok (.isub, 1) := by decide +kernel
theorem dX9_way_247 : decode cX9_way 247 = .ok (.iload 6, 2) := by decide +kernel
theorem dX9_way_249 : decode cX9_way 249 = .ok (.isub, 1) := by decide +kernel
theorem dX9_way_250 : decode cX9_way 250 = .ok (.iastore, 1) := by decide +kernel
theorem dX9_way_251 : decode cX9_way 251 = .ok (.iinc 6 1, 3) := by decide +kernel
theorem dX9_way_254 : decode cX9_way 254 = .ok (.goto (-34), 3) := by decide +kernel
theorem dX9_way_257 : decode cX9_way 257 = .ok (.iload 5, 2) := by decide +kernel
theorem dX9_way_259 : decode cX9_way 259 = .ok (.iconst 1, 1) := by decide +kernel
theorem dX9_way_260 : decode cX9_way 260 = .ok (.if_icmp .ne 10, 3) := by decide +kernel
theorem dX9_way_263 : decode cX9_way 263 = .ok (.aload 4, 2) := by decide +kernel
theorem dX9_way_265 : decode cX9_way 265 = .ok (.iconst 0, 1) := by decide +kernel
theorem dX9_way_266 : decode cX9_way 266 = .ok (.iload_n 2, 1) := by decide +kernel
theorem dX9_way_267 : decode cX9_way 267 = .ok (.iconst 2, 1) := by decide +kernel
theorem dX9_way_268 : decode cX9_way 268 = .ok (.idiv, 1) := by decide +kernel
theorem dX9_way_269 : decode cX9_way 269 = .ok (.iastore, 1) := by decide +kernel
theorem dX9_way_270 : decode cX9_way 270 = .ok (.aload_n 3, 1) := by decide +kernel
theorem dX9_way_271 : decode cX9_way 271 = .ok (.areturn, 1) := by decide +kernel
theorem dX9_way_272 : decode cX9_way 272 = .ok (.iconst 0, 1) := by decide +kernel
theorem dX9_way_273 : decode cX9_way 273 = .ok (.istore 5, 2) := by decide +kernel
theorem dX9_way_275 : decode cX9_way 275 = .ok (.iconst 0, 1) := by decide +kernel
theorem dX9_way_276 : decode cX9_way 276 = .ok (.istore 6, 2) := by decide +kernel
theorem dX9_way_278 : decode cX9_way 278 = .ok (.iload 6, 2) := by decide +kernel
theorem dX9_way_280 : decode cX9_way 280 = .ok (.iload_n 1, 1) := by decide +kernel
theorem dX9_way_281 : decode cX9_way 281 = .ok (.if_icmp .ge 47, 3) := by decide +kernel
theorem dX9_way_284 : decode cX9_way 284 = .ok (.iload_n 2, 1) := by decide +kernel
theorem dX9_way_285 : decode cX9_way 285 = .ok (.iconst 1, 1) := by decide +kernel
theorem dX9_way_286 : decode cX9_way 286 = .ok (.isub, 1) := by decide +kernel
theorem dX9_way_287 : decode cX9_way 287 = .ok (.istore 7, 2) := by decide +kernel
theorem dX9_way_289 : decode cX9_way 289 = .ok (.iload 7, 2) := by decide +kernel
theorem dX9_way_291 : decode cX9_way 291 = .ok (.ifCond .lt 31, 3) := by decide +kernel
theorem dX9_way_294 : decode cX9_way 294 = .ok (.iload 7, 2) := by decide +kernel
theorem dX9_way_296 : decode cX9_way 296 = .ok (.iload_n 1, 1) := by decide +kernel
theorem dX9_way_297 : decode cX9_way 297 = .ok (.irem, 1) := by decide +kernel
theorem dX9_way_298 : decode cX9_way 298 = .ok (.iload 6, 2) := by decide +kernel
theorem dX9_way_300 : decode cX9_way 300 = .ok (.if_icmp .eq 6, 3) := by decide +kernel
theorem dX9_way_303 : decode cX9_way 303 = .ok (.goto 13, 3) := by decide +kernel
theorem dX9_way_306 : decode cX9_way 306 = .ok (.aload 4, 2) := by decide +kernel
theorem dX9_way_308 : decode cX9_way 308 = .ok (.iload 5, 2) := by decide +kernel
theorem dX9_way_310 : decode cX9_way 310 = .ok (.iload 7, 2) := by decide +kernel
theorem dX9_way_312 : decode cX9_way 312 = .ok (.iastore, 1) := by decide +kernel
theorem dX9_way_313 : decode cX9_way 313 = .ok (.iinc 5 1, 3) := by decide +kernel
