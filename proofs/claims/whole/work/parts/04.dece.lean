theorem dc_L_put_0 : decode bc_L_put 0 = .ok (.aload_n 3, 1) := by decide +kernel
theorem dc_L_put_1 : decode bc_L_put 1 = .ok (.iconst 0, 1) := by decide +kernel
theorem dc_L_put_2 : decode bc_L_put 2 = .ok (.aload_n 0, 1) := by decide +kernel
theorem dc_L_put_3 : decode bc_L_put 3 = .ok (.iload_n 1, 1) := by decide +kernel
theorem dc_L_put_4 : decode bc_L_put 4 = .ok (.iload_n 2, 1) := by decide +kernel
theorem dc_L_put_5 : decode bc_L_put 5 = .ok (.invokevirtual 7, 3) := by decide +kernel
theorem dc_L_put_8 : decode bc_L_put 8 = .ok (.ifCond .eq 7, 3) := by decide +kernel
theorem dc_L_put_11 : decode bc_L_put 11 = .ok (.lconst 1, 1) := by decide +kernel
theorem dc_L_put_12 : decode bc_L_put 12 = .ok (.goto 4, 3) := by decide +kernel
theorem dc_L_put_15 : decode bc_L_put 15 = .ok (.lconst 0, 1) := by decide +kernel
theorem dc_L_put_16 : decode bc_L_put 16 = .ok (.lastore, 1) := by decide +kernel
theorem dc_L_put_17 : decode bc_L_put 17 = .ok (.goto 11, 3) := by decide +kernel
theorem dc_L_put_20 : decode bc_L_put 20 = .ok (.astore 4, 2) := by decide +kernel
theorem dc_L_put_22 : decode bc_L_put 22 = .ok (.iconst 1, 1) := by decide +kernel
theorem dc_L_put_23 : decode bc_L_put 23 = .ok (.ireturn, 1) := by decide +kernel
theorem dc_L_put_24 : decode bc_L_put 24 = .ok (.astore 4, 2) := by decide +kernel
theorem dc_L_put_26 : decode bc_L_put 26 = .ok (.iconst 2, 1) := by decide +kernel
theorem dc_L_put_27 : decode bc_L_put 27 = .ok (.ireturn, 1) := by decide +kernel
theorem dc_L_put_28 : decode bc_L_put 28 = .ok (.iconst 0, 1) := by decide +kernel
theorem dc_L_put_29 : decode bc_L_put 29 = .ok (.ireturn, 1) := by decide +kernel
theorem dc_L_take_0 : decode bc_L_take 0 = .ok (.aload_n 3, 1) := by decide +kernel
theorem dc_L_take_1 : decode bc_L_take 1 = .ok (.iconst 0, 1) := by decide +kernel
theorem dc_L_take_2 : decode bc_L_take 2 = .ok (.aload_n 0, 1) := by decide +kernel
theorem dc_L_take_3 : decode bc_L_take 3 = .ok (.iload_n 1, 1) := by decide +kernel
theorem dc_L_take_4 : decode bc_L_take 4 = .ok (.iload_n 2, 1) := by decide +kernel
theorem dc_L_take_5 : decode bc_L_take 5 = .ok (.invokevirtual 17, 3) := by decide +kernel
theorem dc_L_take_8 : decode bc_L_take 8 = .ok (.ifCond .eq 7, 3) := by decide +kernel
theorem dc_L_take_11 : decode bc_L_take 11 = .ok (.lconst 1, 1) := by decide +kernel
theorem dc_L_take_12 : decode bc_L_take 12 = .ok (.goto 4, 3) := by decide +kernel
theorem dc_L_take_15 : decode bc_L_take 15 = .ok (.lconst 0, 1) := by decide +kernel
theorem dc_L_take_16 : decode bc_L_take 16 = .ok (.lastore, 1) := by decide +kernel
theorem dc_L_take_17 : decode bc_L_take 17 = .ok (.goto 11, 3) := by decide +kernel
theorem dc_L_take_20 : decode bc_L_take 20 = .ok (.astore 4, 2) := by decide +kernel
theorem dc_L_take_22 : decode bc_L_take 22 = .ok (.iconst 1, 1) := by decide +kernel
theorem dc_L_take_23 : decode bc_L_take 23 = .ok (.ireturn, 1) := by decide +kernel
theorem dc_L_take_24 : decode bc_L_take 24 = .ok (.astore 4, 2) := by decide +kernel
theorem dc_L_take_26 : decode bc_L_take 26 = .ok (.iconst 2, 1) := by decide +kernel
theorem dc_L_take_27 : decode bc_L_take 27 = .ok (.ireturn, 1) := by decide +kernel
theorem dc_L_take_28 : decode bc_L_take 28 = .ok (.iconst 0, 1) := by decide +kernel
theorem dc_L_take_29 : decode bc_L_take 29 = .ok (.ireturn, 1) := by decide +kernel
theorem dc_L_clear_0 : decode bc_L_clear 0 = .ok (.aload_n 2, 1) := by decide +kernel
theorem dc_L_clear_1 : decode bc_L_clear 1 = .ok (.iconst 0, 1) := by decide +kernel
theorem dc_L_clear_2 : decode bc_L_clear 2 = .ok (.aload_n 0, 1) := by decide +kernel
theorem dc_L_clear_3 : decode bc_L_clear 3 = .ok (.iload_n 1, 1) := by decide +kernel
theorem dc_L_clear_4 : decode bc_L_clear 4 = .ok (.invokevirtual 20, 3) := by decide +kernel
theorem dc_L_clear_7 : decode bc_L_clear 7 = .ok (.i2l, 1) := by decide +kernel
theorem dc_L_clear_8 : decode bc_L_clear 8 = .ok (.lastore, 1) := by decide +kernel
theorem dc_L_clear_9 : decode bc_L_clear 9 = .ok (.goto 6, 3) := by decide +kernel
theorem dc_L_clear_12 : decode bc_L_clear 12 = .ok (.astore_n 3, 1) := by decide +kernel
theorem dc_L_clear_13 : decode bc_L_clear 13 = .ok (.iconst 1, 1) := by decide +kernel
theorem dc_L_clear_14 : decode bc_L_clear 14 = .ok (.ireturn, 1) := by decide +kernel
theorem dc_L_clear_15 : decode bc_L_clear 15 = .ok (.iconst 0, 1) := by decide +kernel
theorem dc_L_clear_16 : decode bc_L_clear 16 = .ok (.ireturn, 1) := by decide +kernel
theorem dc_L_combine_0 : decode bc_L_combine 0 = .ok (.aload 5, 2) := by decide +kernel
theorem dc_L_combine_2 : decode bc_L_combine 2 = .ok (.iconst 0, 1) := by decide +kernel
theorem dc_L_combine_3 : decode bc_L_combine 3 = .ok (.aload_n 0, 1) := by decide +kernel
theorem dc_L_combine_4 : decode bc_L_combine 4 = .ok (.iload_n 1, 1) := by decide +kernel
theorem dc_L_combine_5 : decode bc_L_combine 5 = .ok (.iload_n 2, 1) := by decide +kernel
theorem dc_L_combine_6 : decode bc_L_combine 6 = .ok (.iload_n 3, 1) := by decide +kernel
theorem dc_L_combine_7 : decode bc_L_combine 7 = .ok (.iload 4, 2) := by decide +kernel
theorem dc_L_combine_9 : decode bc_L_combine 9 = .ok (.invokevirtual 24, 3) := by decide +kernel
theorem dc_L_combine_12 : decode bc_L_combine 12 = .ok (.i2l, 1) := by decide +kernel
theorem dc_L_combine_13 : decode bc_L_combine 13 = .ok (.lastore, 1) := by decide +kernel
theorem dc_L_combine_14 : decode bc_L_combine 14 = .ok (.goto 15, 3) := by decide +kernel
theorem dc_L_combine_17 : decode bc_L_combine 17 = .ok (.astore 6, 2) := by decide +kernel
theorem dc_L_combine_19 : decode bc_L_combine 19 = .ok (.iconst 1, 1) := by decide +kernel
theorem dc_L_combine_20 : decode bc_L_combine 20 = .ok (.ireturn, 1) := by decide +kernel
theorem dc_L_combine_21 : decode bc_L_combine 21 = .ok (.astore 6, 2) := by decide +kernel
theorem dc_L_combine_23 : decode bc_L_combine 23 = .ok (.iconst 2, 1) := by decide +kernel
theorem dc_L_combine_24 : decode bc_L_combine 24 = .ok (.ireturn, 1) := by decide +kernel
theorem dc_L_combine_25 : decode bc_L_combine 25 = .ok (.astore 6, 2) := by decide +kernel
theorem dc_L_combine_27 : decode bc_L_combine 27 = .ok (.iconst 3, 1) := by decide +kernel
theorem dc_L_combine_28 : decode bc_L_combine 28 = .ok (.ireturn, 1) := by decide +kernel
theorem dc_L_combine_29 : decode bc_L_combine 29 = .ok (.iconst 0, 1) := by decide +kernel
theorem dc_L_combine_30 : decode bc_L_combine 30 = .ok (.ireturn, 1) := by decide +kernel
theorem dc_L_change_0 : decode bc_L_change 0 = .ok (.aload 5, 2) := by decide +kernel
theorem dc_L_change_2 : decode bc_L_change 2 = .ok (.iconst 0, 1) := by decide +kernel
theorem dc_L_change_3 : decode bc_L_change 3 = .ok (.aload_n 0, 1) := by decide +kernel
theorem dc_L_change_4 : decode bc_L_change 4 = .ok (.iload_n 1, 1) := by decide +kernel
theorem dc_L_change_5 : decode bc_L_change 5 = .ok (.iload_n 2, 1) := by decide +kernel
theorem dc_L_change_6 : decode bc_L_change 6 = .ok (.iload_n 3, 1) := by decide +kernel
theorem dc_L_change_7 : decode bc_L_change 7 = .ok (.iload 4, 2) := by decide +kernel
theorem dc_L_change_9 : decode bc_L_change 9 = .ok (.invokevirtual 30, 3) := by decide +kernel
theorem dc_L_change_12 : decode bc_L_change 12 = .ok (.i2l, 1) := by decide +kernel
theorem dc_L_change_13 : decode bc_L_change 13 = .ok (.lastore, 1) := by decide +kernel
theorem dc_L_change_14 : decode bc_L_change 14 = .ok (.goto 11, 3) := by decide +kernel
theorem dc_L_change_17 : decode bc_L_change 17 = .ok (.astore 6, 2) := by decide +kernel
theorem dc_L_change_19 : decode bc_L_change 19 = .ok (.iconst 1, 1) := by decide +kernel
theorem dc_L_change_20 : decode bc_L_change 20 = .ok (.ireturn, 1) := by decide +kernel
theorem dc_L_change_21 : decode bc_L_change 21 = .ok (.astore 6, 2) := by decide +kernel
theorem dc_L_change_23 : decode bc_L_change 23 = .ok (.iconst 2, 1) := by decide +kernel
theorem dc_L_change_24 : decode bc_L_change 24 = .ok (.ireturn, 1) := by decide +kernel
theorem dc_L_change_25 : decode bc_L_change 25 = .ok (.iconst 0, 1) := by decide +kernel
theorem dc_L_change_26 : decode bc_L_change 26 = .ok (.ireturn, 1) := by decide +kernel
theorem dc_L_extreme_0 : decode bc_L_extreme 0 = .ok (.aload 4, 2) := by decide +kernel
theorem dc_L_extreme_2 : decode bc_L_extreme 2 = .ok (.iconst 0, 1) := by decide +kernel
theorem dc_L_extreme_3 : decode bc_L_extreme 3 = .ok (.aload_n 0, 1) := by decide +kernel
theorem dc_L_extreme_4 : decode bc_L_extreme 4 = .ok (.iload_n 1, 1) := by decide +kernel
theorem dc_L_extreme_5 : decode bc_L_extreme 5 = .ok (.iload_n 2, 1) := by decide +kernel
theorem dc_L_extreme_6 : decode bc_L_extreme 6 = .ok (.iload_n 3, 1) := by decide +kernel
theorem dc_L_extreme_7 : decode bc_L_extreme 7 = .ok (.invokevirtual 33, 3) := by decide +kernel
theorem dc_L_extreme_10 : decode bc_L_extreme 10 = .ok (.i2l, 1) := by decide +kernel
theorem dc_L_extreme_11 : decode bc_L_extreme 11 = .ok (.lastore, 1) := by decide +kernel
theorem dc_L_extreme_12 : decode bc_L_extreme 12 = .ok (.goto 7, 3) := by decide +kernel
theorem dc_L_extreme_15 : decode bc_L_extreme 15 = .ok (.astore 5, 2) := by decide +kernel
theorem dc_L_extreme_17 : decode bc_L_extreme 17 = .ok (.iconst 1, 1) := by decide +kernel
theorem dc_L_extreme_18 : decode bc_L_extreme 18 = .ok (.ireturn, 1) := by decide +kernel
theorem dc_L_extreme_19 : decode bc_L_extreme 19 = .ok (.iconst 0, 1) := by decide +kernel
theorem dc_L_extreme_20 : decode bc_L_extreme 20 = .ok (.ireturn, 1) := by decide +kernel
theorem dc_L_sized_0 : decode bc_L_sized 0 = .ok (.aload 4, 2) := by decide +kernel
theorem dc_L_sized_2 : decode bc_L_sized 2 = .ok (.iconst 0, 1) := by decide +kernel
theorem dc_L_sized_3 : decode bc_L_sized 3 = .ok (.aload_n 0, 1) := by decide +kernel
theorem dc_L_sized_4 : decode bc_L_sized 4 = .ok (.iload_n 1, 1) := by decide +kernel
theorem dc_L_sized_5 : decode bc_L_sized 5 = .ok (.iload_n 2, 1) := by decide +kernel
theorem dc_L_sized_6 : decode bc_L_sized 6 = .ok (.iload_n 3, 1) := by decide +kernel
theorem dc_L_sized_7 : decode bc_L_sized 7 = .ok (.invokevirtual 37, 3) := by decide +kernel
theorem dc_L_sized_10 : decode bc_L_sized 10 = .ok (.i2l, 1) := by decide +kernel
theorem dc_L_sized_11 : decode bc_L_sized 11 = .ok (.lastore, 1) := by decide +kernel
theorem dc_L_sized_12 : decode bc_L_sized 12 = .ok (.goto 11, 3) := by decide +kernel
theorem dc_L_sized_15 : decode bc_L_sized 15 = .ok (.astore 5, 2) := by decide +kernel
theorem dc_L_sized_17 : decode bc_L_sized 17 = .ok (.iconst 1, 1) := by decide +kernel
theorem dc_L_sized_18 : decode bc_L_sized 18 = .ok (.ireturn, 1) := by decide +kernel
theorem dc_L_sized_19 : decode bc_L_sized 19 = .ok (.astore 5, 2) := by decide +kernel
theorem dc_L_sized_21 : decode bc_L_sized 21 = .ok (.iconst 2, 1) := by decide +kernel
theorem dc_L_sized_22 : decode bc_L_sized 22 = .ok (.ireturn, 1) := by decide +kernel
theorem dc_L_sized_23 : decode bc_L_sized 23 = .ok (.iconst 0, 1) := by decide +kernel
theorem dc_L_sized_24 : decode bc_L_sized 24 = .ok (.ireturn, 1) := by decide +kernel
theorem dc_L_edge_0 : decode bc_L_edge 0 = .ok (.aload_n 0, 1) := by decide +kernel
theorem dc_L_edge_1 : decode bc_L_edge 1 = .ok (.iload_n 1, 1) := by decide +kernel
theorem dc_L_edge_2 : decode bc_L_edge 2 = .ok (.iload_n 2, 1) := by decide +kernel
theorem dc_L_edge_3 : decode bc_L_edge 3 = .ok (.iload_n 3, 1) := by decide +kernel
theorem dc_L_edge_4 : decode bc_L_edge 4 = .ok (.invokevirtual 41, 3) := by decide +kernel
theorem dc_L_edge_7 : decode bc_L_edge 7 = .ok (.goto 11, 3) := by decide +kernel
theorem dc_L_edge_10 : decode bc_L_edge 10 = .ok (.astore 4, 2) := by decide +kernel
theorem dc_L_edge_12 : decode bc_L_edge 12 = .ok (.iconst 1, 1) := by decide +kernel
theorem dc_L_edge_13 : decode bc_L_edge 13 = .ok (.ireturn, 1) := by decide +kernel
theorem dc_L_edge_14 : decode bc_L_edge 14 = .ok (.astore 4, 2) := by decide +kernel
theorem dc_L_edge_16 : decode bc_L_edge 16 = .ok (.iconst 2, 1) := by decide +kernel
theorem dc_L_edge_17 : decode bc_L_edge 17 = .ok (.ireturn, 1) := by decide +kernel
theorem dc_L_edge_18 : decode bc_L_edge 18 = .ok (.iconst 0, 1) := by decide +kernel
theorem dc_L_edge_19 : decode bc_L_edge 19 = .ok (.ireturn, 1) := by decide +kernel
theorem dc_L_cut_0 : decode bc_L_cut 0 = .ok (.aload_n 2, 1) := by decide +kernel
theorem dc_L_cut_1 : decode bc_L_cut 1 = .ok (.iconst 0, 1) := by decide +kernel
theorem dc_L_cut_2 : decode bc_L_cut 2 = .ok (.aload_n 0, 1) := by decide +kernel
theorem dc_L_cut_3 : decode bc_L_cut 3 = .ok (.iload_n 1, 1) := by decide +kernel
theorem dc_L_cut_4 : decode bc_L_cut 4 = .ok (.invokevirtual 45, 3) := by decide +kernel
theorem dc_L_cut_7 : decode bc_L_cut 7 = .ok (.ifCond .eq 7, 3) := by decide +kernel
theorem dc_L_cut_10 : decode bc_L_cut 10 = .ok (.lconst 1, 1) := by decide +kernel
theorem dc_L_cut_11 : decode bc_L_cut 11 = .ok (.goto 4, 3) := by decide +kernel
theorem dc_L_cut_14 : decode bc_L_cut 14 = .ok (.lconst 0, 1) := by decide +kernel
theorem dc_L_cut_15 : decode bc_L_cut 15 = .ok (.lastore, 1) := by decide +kernel
theorem dc_L_cut_16 : decode bc_L_cut 16 = .ok (.goto 6, 3) := by decide +kernel
theorem dc_L_cut_19 : decode bc_L_cut 19 = .ok (.astore_n 3, 1) := by decide +kernel
theorem dc_L_cut_20 : decode bc_L_cut 20 = .ok (.iconst 1, 1) := by decide +kernel
theorem dc_L_cut_21 : decode bc_L_cut 21 = .ok (.ireturn, 1) := by decide +kernel
theorem dc_L_cut_22 : decode bc_L_cut 22 = .ok (.iconst 0, 1) := by decide +kernel
theorem dc_L_cut_23 : decode bc_L_cut 23 = .ok (.ireturn, 1) := by decide +kernel
theorem dc_L_paths_0 : decode bc_L_paths 0 = .ok (.aload 4, 2) := by decide +kernel
theorem dc_L_paths_2 : decode bc_L_paths 2 = .ok (.iconst 0, 1) := by decide +kernel
theorem dc_L_paths_3 : decode bc_L_paths 3 = .ok (.aload_n 0, 1) := by decide +kernel
theorem dc_L_paths_4 : decode bc_L_paths 4 = .ok (.iload_n 1, 1) := by decide +kernel
theorem dc_L_paths_5 : decode bc_L_paths 5 = .ok (.iload_n 2, 1) := by decide +kernel
theorem dc_L_paths_6 : decode bc_L_paths 6 = .ok (.iload_n 3, 1) := by decide +kernel
theorem dc_L_paths_7 : decode bc_L_paths 7 = .ok (.invokevirtual 49, 3) := by decide +kernel
theorem dc_L_paths_10 : decode bc_L_paths 10 = .ok (.i2l, 1) := by decide +kernel
theorem dc_L_paths_11 : decode bc_L_paths 11 = .ok (.lastore, 1) := by decide +kernel
theorem dc_L_paths_12 : decode bc_L_paths 12 = .ok (.goto 7, 3) := by decide +kernel
theorem dc_L_paths_15 : decode bc_L_paths 15 = .ok (.astore 5, 2) := by decide +kernel
theorem dc_L_paths_17 : decode bc_L_paths 17 = .ok (.iconst 1, 1) := by decide +kernel
theorem dc_L_paths_18 : decode bc_L_paths 18 = .ok (.ireturn, 1) := by decide +kernel
theorem dc_L_paths_19 : decode bc_L_paths 19 = .ok (.iconst 0, 1) := by decide +kernel
theorem dc_L_paths_20 : decode bc_L_paths 20 = .ok (.ireturn, 1) := by decide +kernel
theorem dc_L_matchings_0 : decode bc_L_matchings 0 = .ok (.aload_n 2, 1) := by decide +kernel
theorem dc_L_matchings_1 : decode bc_L_matchings 1 = .ok (.iconst 0, 1) := by decide +kernel
theorem dc_L_matchings_2 : decode bc_L_matchings 2 = .ok (.aload_n 0, 1) := by decide +kernel
theorem dc_L_matchings_3 : decode bc_L_matchings 3 = .ok (.iload_n 1, 1) := by decide +kernel
theorem dc_L_matchings_4 : decode bc_L_matchings 4 = .ok (.invokevirtual 52, 3) := by decide +kernel
theorem dc_L_matchings_7 : decode bc_L_matchings 7 = .ok (.i2l, 1) := by decide +kernel
theorem dc_L_matchings_8 : decode bc_L_matchings 8 = .ok (.lastore, 1) := by decide +kernel
theorem dc_L_matchings_9 : decode bc_L_matchings 9 = .ok (.goto 6, 3) := by decide +kernel
theorem dc_L_matchings_12 : decode bc_L_matchings 12 = .ok (.astore_n 3, 1) := by decide +kernel
theorem dc_L_matchings_13 : decode bc_L_matchings 13 = .ok (.iconst 1, 1) := by decide +kernel
theorem dc_L_matchings_14 : decode bc_L_matchings 14 = .ok (.ireturn, 1) := by decide +kernel
theorem dc_L_matchings_15 : decode bc_L_matchings 15 = .ok (.iconst 0, 1) := by decide +kernel
theorem dc_L_matchings_16 : decode bc_L_matchings 16 = .ok (.ireturn, 1) := by decide +kernel
theorem dc_L_weight_0 : decode bc_L_weight 0 = .ok (.aload_n 3, 1) := by decide +kernel
theorem dc_L_weight_1 : decode bc_L_weight 1 = .ok (.iconst 0, 1) := by decide +kernel
theorem dc_L_weight_2 : decode bc_L_weight 2 = .ok (.aload_n 0, 1) := by decide +kernel
theorem dc_L_weight_3 : decode bc_L_weight 3 = .ok (.iload_n 1, 1) := by decide +kernel
theorem dc_L_weight_4 : decode bc_L_weight 4 = .ok (.iload_n 2, 1) := by decide +kernel
theorem dc_L_weight_5 : decode bc_L_weight 5 = .ok (.invokevirtual 55, 3) := by decide +kernel
theorem dc_L_weight_8 : decode bc_L_weight 8 = .ok (.i2l, 1) := by decide +kernel
theorem dc_L_weight_9 : decode bc_L_weight 9 = .ok (.lastore, 1) := by decide +kernel
theorem dc_L_weight_10 : decode bc_L_weight 10 = .ok (.goto 11, 3) := by decide +kernel
theorem dc_L_weight_13 : decode bc_L_weight 13 = .ok (.astore 4, 2) := by decide +kernel
theorem dc_L_weight_15 : decode bc_L_weight 15 = .ok (.iconst 1, 1) := by decide +kernel
theorem dc_L_weight_16 : decode bc_L_weight 16 = .ok (.ireturn, 1) := by decide +kernel
theorem dc_L_weight_17 : decode bc_L_weight 17 = .ok (.astore 4, 2) := by decide +kernel
theorem dc_L_weight_19 : decode bc_L_weight 19 = .ok (.iconst 2, 1) := by decide +kernel
theorem dc_L_weight_20 : decode bc_L_weight 20 = .ok (.ireturn, 1) := by decide +kernel
theorem dc_L_weight_21 : decode bc_L_weight 21 = .ok (.iconst 0, 1) := by decide +kernel
theorem dc_L_weight_22 : decode bc_L_weight 22 = .ok (.ireturn, 1) := by decide +kernel
theorem dc_L_count_0 : decode bc_L_count 0 = .ok (.aload_n 2, 1) := by decide +kernel
theorem dc_L_count_1 : decode bc_L_count 1 = .ok (.iconst 0, 1) := by decide +kernel
theorem dc_L_count_2 : decode bc_L_count 2 = .ok (.aload_n 0, 1) := by decide +kernel
theorem dc_L_count_3 : decode bc_L_count 3 = .ok (.iload_n 1, 1) := by decide +kernel
theorem dc_L_count_4 : decode bc_L_count 4 = .ok (.invokevirtual 59, 3) := by decide +kernel
theorem dc_L_count_7 : decode bc_L_count 7 = .ok (.i2l, 1) := by decide +kernel
theorem dc_L_count_8 : decode bc_L_count 8 = .ok (.lastore, 1) := by decide +kernel
theorem dc_L_count_9 : decode bc_L_count 9 = .ok (.goto 6, 3) := by decide +kernel
theorem dc_L_count_12 : decode bc_L_count 12 = .ok (.astore_n 3, 1) := by decide +kernel
theorem dc_L_count_13 : decode bc_L_count 13 = .ok (.iconst 1, 1) := by decide +kernel
theorem dc_L_count_14 : decode bc_L_count 14 = .ok (.ireturn, 1) := by decide +kernel
theorem dc_L_count_15 : decode bc_L_count 15 = .ok (.iconst 0, 1) := by decide +kernel
theorem dc_L_count_16 : decode bc_L_count 16 = .ok (.ireturn, 1) := by decide +kernel
theorem dc_L_has_0 : decode bc_L_has 0 = .ok (.aload_n 3, 1) := by decide +kernel
theorem dc_L_has_1 : decode bc_L_has 1 = .ok (.iconst 0, 1) := by decide +kernel
theorem dc_L_has_2 : decode bc_L_has 2 = .ok (.aload_n 0, 1) := by decide +kernel
theorem dc_L_has_3 : decode bc_L_has 3 = .ok (.iload_n 1, 1) := by decide +kernel
theorem dc_L_has_4 : decode bc_L_has 4 = .ok (.iload_n 2, 1) := by decide +kernel
theorem dc_L_has_5 : decode bc_L_has 5 = .ok (.invokevirtual 62, 3) := by decide +kernel
theorem dc_L_has_8 : decode bc_L_has 8 = .ok (.ifCond .eq 7, 3) := by decide +kernel
theorem dc_L_has_11 : decode bc_L_has 11 = .ok (.lconst 1, 1) := by decide +kernel
theorem dc_L_has_12 : decode bc_L_has 12 = .ok (.goto 4, 3) := by decide +kernel
theorem dc_L_has_15 : decode bc_L_has 15 = .ok (.lconst 0, 1) := by decide +kernel
theorem dc_L_has_16 : decode bc_L_has 16 = .ok (.lastore, 1) := by decide +kernel
theorem dc_L_has_17 : decode bc_L_has 17 = .ok (.goto 11, 3) := by decide +kernel
theorem dc_L_has_20 : decode bc_L_has 20 = .ok (.astore 4, 2) := by decide +kernel
theorem dc_L_has_22 : decode bc_L_has 22 = .ok (.iconst 1, 1) := by decide +kernel
theorem dc_L_has_23 : decode bc_L_has 23 = .ok (.ireturn, 1) := by decide +kernel
theorem dc_L_has_24 : decode bc_L_has 24 = .ok (.astore 4, 2) := by decide +kernel
theorem dc_L_has_26 : decode bc_L_has 26 = .ok (.iconst 2, 1) := by decide +kernel
theorem dc_L_has_27 : decode bc_L_has 27 = .ok (.ireturn, 1) := by decide +kernel
theorem dc_L_has_28 : decode bc_L_has 28 = .ok (.iconst 0, 1) := by decide +kernel
theorem dc_L_has_29 : decode bc_L_has 29 = .ok (.ireturn, 1) := by decide +kernel
theorem dc_L_nth_0 : decode bc_L_nth 0 = .ok (.aload_n 3, 1) := by decide +kernel
theorem dc_L_nth_1 : decode bc_L_nth 1 = .ok (.iconst 0, 1) := by decide +kernel
theorem dc_L_nth_2 : decode bc_L_nth 2 = .ok (.aload_n 0, 1) := by decide +kernel
theorem dc_L_nth_3 : decode bc_L_nth 3 = .ok (.iload_n 1, 1) := by decide +kernel
theorem dc_L_nth_4 : decode bc_L_nth 4 = .ok (.iload_n 2, 1) := by decide +kernel
theorem dc_L_nth_5 : decode bc_L_nth 5 = .ok (.invokevirtual 65, 3) := by decide +kernel
theorem dc_L_nth_8 : decode bc_L_nth 8 = .ok (.i2l, 1) := by decide +kernel
theorem dc_L_nth_9 : decode bc_L_nth 9 = .ok (.lastore, 1) := by decide +kernel
theorem dc_L_nth_10 : decode bc_L_nth 10 = .ok (.goto 7, 3) := by decide +kernel
theorem dc_L_nth_13 : decode bc_L_nth 13 = .ok (.astore 4, 2) := by decide +kernel
theorem dc_L_nth_15 : decode bc_L_nth 15 = .ok (.iconst 1, 1) := by decide +kernel
theorem dc_L_nth_16 : decode bc_L_nth 16 = .ok (.ireturn, 1) := by decide +kernel
theorem dc_L_nth_17 : decode bc_L_nth 17 = .ok (.iconst 0, 1) := by decide +kernel
theorem dc_L_nth_18 : decode bc_L_nth 18 = .ok (.ireturn, 1) := by decide +kernel
theorem dc_L_rank_0 : decode bc_L_rank 0 = .ok (.aload_n 3, 1) := by decide +kernel
theorem dc_L_rank_1 : decode bc_L_rank 1 = .ok (.iconst 0, 1) := by decide +kernel
theorem dc_L_rank_2 : decode bc_L_rank 2 = .ok (.aload_n 0, 1) := by decide +kernel
theorem dc_L_rank_3 : decode bc_L_rank 3 = .ok (.iload_n 1, 1) := by decide +kernel
theorem dc_L_rank_4 : decode bc_L_rank 4 = .ok (.iload_n 2, 1) := by decide +kernel
theorem dc_L_rank_5 : decode bc_L_rank 5 = .ok (.invokevirtual 68, 3) := by decide +kernel
theorem dc_L_rank_8 : decode bc_L_rank 8 = .ok (.i2l, 1) := by decide +kernel
theorem dc_L_rank_9 : decode bc_L_rank 9 = .ok (.lastore, 1) := by decide +kernel
theorem dc_L_rank_10 : decode bc_L_rank 10 = .ok (.goto 11, 3) := by decide +kernel
theorem dc_L_rank_13 : decode bc_L_rank 13 = .ok (.astore 4, 2) := by decide +kernel
theorem dc_L_rank_15 : decode bc_L_rank 15 = .ok (.iconst 1, 1) := by decide +kernel
theorem dc_L_rank_16 : decode bc_L_rank 16 = .ok (.ireturn, 1) := by decide +kernel
theorem dc_L_rank_17 : decode bc_L_rank 17 = .ok (.astore 4, 2) := by decide +kernel
theorem dc_L_rank_19 : decode bc_L_rank 19 = .ok (.iconst 2, 1) := by decide +kernel
theorem dc_L_rank_20 : decode bc_L_rank 20 = .ok (.ireturn, 1) := by decide +kernel
theorem dc_L_rank_21 : decode bc_L_rank 21 = .ok (.iconst 0, 1) := by decide +kernel
theorem dc_L_rank_22 : decode bc_L_rank 22 = .ok (.ireturn, 1) := by decide +kernel
theorem dc_L_heaviest_0 : decode bc_L_heaviest 0 = .ok (.aload_n 2, 1) := by decide +kernel
theorem dc_L_heaviest_1 : decode bc_L_heaviest 1 = .ok (.iconst 0, 1) := by decide +kernel
theorem dc_L_heaviest_2 : decode bc_L_heaviest 2 = .ok (.aload_n 0, 1) := by decide +kernel
theorem dc_L_heaviest_3 : decode bc_L_heaviest 3 = .ok (.iload_n 1, 1) := by decide +kernel
theorem dc_L_heaviest_4 : decode bc_L_heaviest 4 = .ok (.invokevirtual 71, 3) := by decide +kernel
theorem dc_L_heaviest_7 : decode bc_L_heaviest 7 = .ok (.i2l, 1) := by decide +kernel
theorem dc_L_heaviest_8 : decode bc_L_heaviest 8 = .ok (.lastore, 1) := by decide +kernel
theorem dc_L_heaviest_9 : decode bc_L_heaviest 9 = .ok (.goto 9, 3) := by decide +kernel
theorem dc_L_heaviest_12 : decode bc_L_heaviest 12 = .ok (.astore_n 3, 1) := by decide +kernel
theorem dc_L_heaviest_13 : decode bc_L_heaviest 13 = .ok (.iconst 1, 1) := by decide +kernel
theorem dc_L_heaviest_14 : decode bc_L_heaviest 14 = .ok (.ireturn, 1) := by decide +kernel
theorem dc_L_heaviest_15 : decode bc_L_heaviest 15 = .ok (.astore_n 3, 1) := by decide +kernel
theorem dc_L_heaviest_16 : decode bc_L_heaviest 16 = .ok (.iconst 2, 1) := by decide +kernel
theorem dc_L_heaviest_17 : decode bc_L_heaviest 17 = .ok (.ireturn, 1) := by decide +kernel
theorem dc_L_heaviest_18 : decode bc_L_heaviest 18 = .ok (.iconst 0, 1) := by decide +kernel
theorem dc_L_heaviest_19 : decode bc_L_heaviest 19 = .ok (.ireturn, 1) := by decide +kernel
theorem dc_L_size_0 : decode bc_L_size 0 = .ok (.aload_n 2, 1) := by decide +kernel
theorem dc_L_size_1 : decode bc_L_size 1 = .ok (.iconst 0, 1) := by decide +kernel
theorem dc_L_size_2 : decode bc_L_size 2 = .ok (.aload_n 0, 1) := by decide +kernel
theorem dc_L_size_3 : decode bc_L_size 3 = .ok (.iload_n 1, 1) := by decide +kernel
theorem dc_L_size_4 : decode bc_L_size 4 = .ok (.invokevirtual 76, 3) := by decide +kernel
theorem dc_L_size_7 : decode bc_L_size 7 = .ok (.i2l, 1) := by decide +kernel
theorem dc_L_size_8 : decode bc_L_size 8 = .ok (.lastore, 1) := by decide +kernel
theorem dc_L_size_9 : decode bc_L_size 9 = .ok (.goto 6, 3) := by decide +kernel
theorem dc_L_size_12 : decode bc_L_size 12 = .ok (.astore_n 3, 1) := by decide +kernel
theorem dc_L_size_13 : decode bc_L_size 13 = .ok (.iconst 1, 1) := by decide +kernel
theorem dc_L_size_14 : decode bc_L_size 14 = .ok (.ireturn, 1) := by decide +kernel
theorem dc_L_size_15 : decode bc_L_size 15 = .ok (.iconst 0, 1) := by decide +kernel
theorem dc_L_size_16 : decode bc_L_size 16 = .ok (.ireturn, 1) := by decide +kernel
theorem dc_L_parts_0 : decode bc_L_parts 0 = .ok (.aload_n 2, 1) := by decide +kernel
theorem dc_L_parts_1 : decode bc_L_parts 1 = .ok (.iconst 0, 1) := by decide +kernel
theorem dc_L_parts_2 : decode bc_L_parts 2 = .ok (.aload_n 0, 1) := by decide +kernel
theorem dc_L_parts_3 : decode bc_L_parts 3 = .ok (.iload_n 1, 1) := by decide +kernel
theorem dc_L_parts_4 : decode bc_L_parts 4 = .ok (.invokevirtual 79, 3) := by decide +kernel
theorem dc_L_parts_7 : decode bc_L_parts 7 = .ok (.i2l, 1) := by decide +kernel
theorem dc_L_parts_8 : decode bc_L_parts 8 = .ok (.lastore, 1) := by decide +kernel
theorem dc_L_parts_9 : decode bc_L_parts 9 = .ok (.goto 6, 3) := by decide +kernel
theorem dc_L_parts_12 : decode bc_L_parts 12 = .ok (.astore_n 3, 1) := by decide +kernel
theorem dc_L_parts_13 : decode bc_L_parts 13 = .ok (.iconst 1, 1) := by decide +kernel
theorem dc_L_parts_14 : decode bc_L_parts 14 = .ok (.ireturn, 1) := by decide +kernel
theorem dc_L_parts_15 : decode bc_L_parts 15 = .ok (.iconst 0, 1) := by decide +kernel
theorem dc_L_parts_16 : decode bc_L_parts 16 = .ok (.ireturn, 1) := by decide +kernel
