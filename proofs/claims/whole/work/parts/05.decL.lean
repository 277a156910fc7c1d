/-! the instructions of TideTablesLaw, decoded. Written by wip/whole/names.py -/
theorem d_L_level_0 : decode b_L_level 0 = .ok (.aload_n 2, 1) := by decide +kernel
theorem d_L_level_1 : decode b_L_level 1 = .ok (.iconst 0, 1) := by decide +kernel
theorem d_L_level_2 : decode b_L_level 2 = .ok (.aload_n 0, 1) := by decide +kernel
theorem d_L_level_3 : decode b_L_level 3 = .ok (.iload_n 1, 1) := by decide +kernel
theorem d_L_level_4 : decode b_L_level 4 = .ok (.invokevirtual 7, 3) := by decide +kernel
theorem d_L_level_7 : decode b_L_level 7 = .ok (.i2l, 1) := by decide +kernel
theorem d_L_level_8 : decode b_L_level 8 = .ok (.lastore, 1) := by decide +kernel
theorem d_L_level_9 : decode b_L_level 9 = .ok (.goto 6, 3) := by decide +kernel
theorem d_L_level_12 : decode b_L_level 12 = .ok (.astore_n 3, 1) := by decide +kernel
theorem d_L_level_13 : decode b_L_level 13 = .ok (.iconst 1, 1) := by decide +kernel
theorem d_L_level_14 : decode b_L_level 14 = .ok (.ireturn, 1) := by decide +kernel
theorem d_L_level_15 : decode b_L_level 15 = .ok (.iconst 0, 1) := by decide +kernel
theorem d_L_level_16 : decode b_L_level 16 = .ok (.ireturn, 1) := by decide +kernel
theorem d_L_constituent_0 : decode b_L_constituent 0 = .ok (.aload_n 0, 1) := by decide +kernel
theorem d_L_constituent_1 : decode b_L_constituent 1 = .ok (.iload_n 1, 1) := by decide +kernel
theorem d_L_constituent_2 : decode b_L_constituent 2 = .ok (.iload_n 2, 1) := by decide +kernel
theorem d_L_constituent_3 : decode b_L_constituent 3 = .ok (.lload_n 3, 1) := by decide +kernel
theorem d_L_constituent_4 : decode b_L_constituent 4 = .ok (.lload 5, 2) := by decide +kernel
theorem d_L_constituent_6 : decode b_L_constituent 6 = .ok (.invokevirtual 15, 3) := by decide +kernel
theorem d_L_constituent_9 : decode b_L_constituent 9 = .ok (.goto 11, 3) := by decide +kernel
theorem d_L_constituent_12 : decode b_L_constituent 12 = .ok (.astore 7, 2) := by decide +kernel
theorem d_L_constituent_14 : decode b_L_constituent 14 = .ok (.iconst 1, 1) := by decide +kernel
theorem d_L_constituent_15 : decode b_L_constituent 15 = .ok (.ireturn, 1) := by decide +kernel
theorem d_L_constituent_16 : decode b_L_constituent 16 = .ok (.astore 7, 2) := by decide +kernel
theorem d_L_constituent_18 : decode b_L_constituent 18 = .ok (.iconst 2, 1) := by decide +kernel
theorem d_L_constituent_19 : decode b_L_constituent 19 = .ok (.ireturn, 1) := by decide +kernel
theorem d_L_constituent_20 : decode b_L_constituent 20 = .ok (.iconst 0, 1) := by decide +kernel
theorem d_L_constituent_21 : decode b_L_constituent 21 = .ok (.ireturn, 1) := by decide +kernel
theorem d_L_node_0 : decode b_L_node 0 = .ok (.aload_n 0, 1) := by decide +kernel
theorem d_L_node_1 : decode b_L_node 1 = .ok (.iload_n 1, 1) := by decide +kernel
theorem d_L_node_2 : decode b_L_node 2 = .ok (.iload_n 2, 1) := by decide +kernel
theorem d_L_node_3 : decode b_L_node 3 = .ok (.iload_n 3, 1) := by decide +kernel
theorem d_L_node_4 : decode b_L_node 4 = .ok (.lload 4, 2) := by decide +kernel
theorem d_L_node_6 : decode b_L_node 6 = .ok (.invokevirtual 21, 3) := by decide +kernel
theorem d_L_node_9 : decode b_L_node 9 = .ok (.goto 11, 3) := by decide +kernel
theorem d_L_node_12 : decode b_L_node 12 = .ok (.astore 6, 2) := by decide +kernel
theorem d_L_node_14 : decode b_L_node 14 = .ok (.iconst 1, 1) := by decide +kernel
theorem d_L_node_15 : decode b_L_node 15 = .ok (.ireturn, 1) := by decide +kernel
theorem d_L_node_16 : decode b_L_node 16 = .ok (.astore 6, 2) := by decide +kernel
theorem d_L_node_18 : decode b_L_node 18 = .ok (.iconst 2, 1) := by decide +kernel
theorem d_L_node_19 : decode b_L_node 19 = .ok (.ireturn, 1) := by decide +kernel
theorem d_L_node_20 : decode b_L_node 20 = .ok (.iconst 0, 1) := by decide +kernel
theorem d_L_node_21 : decode b_L_node 21 = .ok (.ireturn, 1) := by decide +kernel
theorem d_L_days_0 : decode b_L_days 0 = .ok (.aload_n 3, 1) := by decide +kernel
theorem d_L_days_1 : decode b_L_days 1 = .ok (.iconst 0, 1) := by decide +kernel
theorem d_L_days_2 : decode b_L_days 2 = .ok (.aload_n 0, 1) := by decide +kernel
theorem d_L_days_3 : decode b_L_days 3 = .ok (.iload_n 1, 1) := by decide +kernel
theorem d_L_days_4 : decode b_L_days 4 = .ok (.iload_n 2, 1) := by decide +kernel
theorem d_L_days_5 : decode b_L_days 5 = .ok (.invokevirtual 25, 3) := by decide +kernel
theorem d_L_days_8 : decode b_L_days 8 = .ok (.i2l, 1) := by decide +kernel
theorem d_L_days_9 : decode b_L_days 9 = .ok (.lastore, 1) := by decide +kernel
theorem d_L_days_10 : decode b_L_days 10 = .ok (.goto 11, 3) := by decide +kernel
theorem d_L_days_13 : decode b_L_days 13 = .ok (.astore 4, 2) := by decide +kernel
theorem d_L_days_15 : decode b_L_days 15 = .ok (.iconst 1, 1) := by decide +kernel
theorem d_L_days_16 : decode b_L_days 16 = .ok (.ireturn, 1) := by decide +kernel
theorem d_L_days_17 : decode b_L_days 17 = .ok (.astore 4, 2) := by decide +kernel
theorem d_L_days_19 : decode b_L_days 19 = .ok (.iconst 2, 1) := by decide +kernel
theorem d_L_days_20 : decode b_L_days 20 = .ok (.ireturn, 1) := by decide +kernel
theorem d_L_days_21 : decode b_L_days 21 = .ok (.iconst 0, 1) := by decide +kernel
theorem d_L_days_22 : decode b_L_days 22 = .ok (.ireturn, 1) := by decide +kernel
theorem d_L_first_0 : decode b_L_first 0 = .ok (.aload_n 2, 1) := by decide +kernel
theorem d_L_first_1 : decode b_L_first 1 = .ok (.iconst 0, 1) := by decide +kernel
theorem d_L_first_2 : decode b_L_first 2 = .ok (.aload_n 0, 1) := by decide +kernel
theorem d_L_first_3 : decode b_L_first 3 = .ok (.iload_n 1, 1) := by decide +kernel
theorem d_L_first_4 : decode b_L_first 4 = .ok (.invokevirtual 29, 3) := by decide +kernel
theorem d_L_first_7 : decode b_L_first 7 = .ok (.i2l, 1) := by decide +kernel
theorem d_L_first_8 : decode b_L_first 8 = .ok (.lastore, 1) := by decide +kernel
theorem d_L_first_9 : decode b_L_first 9 = .ok (.goto 6, 3) := by decide +kernel
theorem d_L_first_12 : decode b_L_first 12 = .ok (.astore_n 3, 1) := by decide +kernel
theorem d_L_first_13 : decode b_L_first 13 = .ok (.iconst 1, 1) := by decide +kernel
theorem d_L_first_14 : decode b_L_first 14 = .ok (.ireturn, 1) := by decide +kernel
theorem d_L_first_15 : decode b_L_first 15 = .ok (.iconst 0, 1) := by decide +kernel
theorem d_L_first_16 : decode b_L_first 16 = .ok (.ireturn, 1) := by decide +kernel
theorem d_L_year_0 : decode b_L_year 0 = .ok (.aload_n 2, 1) := by decide +kernel
theorem d_L_year_1 : decode b_L_year 1 = .ok (.iconst 0, 1) := by decide +kernel
theorem d_L_year_2 : decode b_L_year 2 = .ok (.aload_n 0, 1) := by decide +kernel
theorem d_L_year_3 : decode b_L_year 3 = .ok (.iload_n 1, 1) := by decide +kernel
theorem d_L_year_4 : decode b_L_year 4 = .ok (.invokevirtual 32, 3) := by decide +kernel
theorem d_L_year_7 : decode b_L_year 7 = .ok (.i2l, 1) := by decide +kernel
theorem d_L_year_8 : decode b_L_year 8 = .ok (.lastore, 1) := by decide +kernel
theorem d_L_year_9 : decode b_L_year 9 = .ok (.goto 6, 3) := by decide +kernel
theorem d_L_year_12 : decode b_L_year 12 = .ok (.astore_n 3, 1) := by decide +kernel
theorem d_L_year_13 : decode b_L_year 13 = .ok (.iconst 1, 1) := by decide +kernel
theorem d_L_year_14 : decode b_L_year 14 = .ok (.ireturn, 1) := by decide +kernel
theorem d_L_year_15 : decode b_L_year 15 = .ok (.iconst 0, 1) := by decide +kernel
theorem d_L_year_16 : decode b_L_year 16 = .ok (.ireturn, 1) := by decide +kernel
theorem d_L_position_0 : decode b_L_position 0 = .ok (.aload_n 3, 1) := by decide +kernel
theorem d_L_position_1 : decode b_L_position 1 = .ok (.iconst 0, 1) := by decide +kernel
theorem d_L_position_2 : decode b_L_position 2 = .ok (.aload_n 0, 1) := by decide +kernel
theorem d_L_position_3 : decode b_L_position 3 = .ok (.iload_n 1, 1) := by decide +kernel
theorem d_L_position_4 : decode b_L_position 4 = .ok (.iload_n 2, 1) := by decide +kernel
theorem d_L_position_5 : decode b_L_position 5 = .ok (.invokevirtual 35, 3) := by decide +kernel
theorem d_L_position_8 : decode b_L_position 8 = .ok (.lastore, 1) := by decide +kernel
theorem d_L_position_9 : decode b_L_position 9 = .ok (.goto 7, 3) := by decide +kernel
theorem d_L_position_12 : decode b_L_position 12 = .ok (.astore 4, 2) := by decide +kernel
theorem d_L_position_14 : decode b_L_position 14 = .ok (.iconst 1, 1) := by decide +kernel
theorem d_L_position_15 : decode b_L_position 15 = .ok (.ireturn, 1) := by decide +kernel
theorem d_L_position_16 : decode b_L_position 16 = .ok (.iconst 0, 1) := by decide +kernel
theorem d_L_position_17 : decode b_L_position 17 = .ok (.ireturn, 1) := by decide +kernel
theorem d_L_cosine_0 : decode b_L_cosine 0 = .ok (.aload_n 3, 1) := by decide +kernel
theorem d_L_cosine_1 : decode b_L_cosine 1 = .ok (.iconst 0, 1) := by decide +kernel
theorem d_L_cosine_2 : decode b_L_cosine 2 = .ok (.aload_n 0, 1) := by decide +kernel
theorem d_L_cosine_3 : decode b_L_cosine 3 = .ok (.lload_n 1, 1) := by decide +kernel
theorem d_L_cosine_4 : decode b_L_cosine 4 = .ok (.invokevirtual 39, 3) := by decide +kernel
theorem d_L_cosine_7 : decode b_L_cosine 7 = .ok (.i2l, 1) := by decide +kernel
theorem d_L_cosine_8 : decode b_L_cosine 8 = .ok (.lastore, 1) := by decide +kernel
theorem d_L_cosine_9 : decode b_L_cosine 9 = .ok (.goto 7, 3) := by decide +kernel
theorem d_L_cosine_12 : decode b_L_cosine 12 = .ok (.astore 4, 2) := by decide +kernel
theorem d_L_cosine_14 : decode b_L_cosine 14 = .ok (.iconst 1, 1) := by decide +kernel
theorem d_L_cosine_15 : decode b_L_cosine 15 = .ok (.ireturn, 1) := by decide +kernel
theorem d_L_cosine_16 : decode b_L_cosine 16 = .ok (.iconst 0, 1) := by decide +kernel
theorem d_L_cosine_17 : decode b_L_cosine 17 = .ok (.ireturn, 1) := by decide +kernel
theorem d_L_height_0 : decode b_L_height 0 = .ok (.aload_n 2, 1) := by decide +kernel
theorem d_L_height_1 : decode b_L_height 1 = .ok (.iconst 0, 1) := by decide +kernel
theorem d_L_height_2 : decode b_L_height 2 = .ok (.aload_n 0, 1) := by decide +kernel
theorem d_L_height_3 : decode b_L_height 3 = .ok (.iload_n 1, 1) := by decide +kernel
theorem d_L_height_4 : decode b_L_height 4 = .ok (.invokevirtual 43, 3) := by decide +kernel
theorem d_L_height_7 : decode b_L_height 7 = .ok (.i2l, 1) := by decide +kernel
theorem d_L_height_8 : decode b_L_height 8 = .ok (.lastore, 1) := by decide +kernel
theorem d_L_height_9 : decode b_L_height 9 = .ok (.goto 6, 3) := by decide +kernel
theorem d_L_height_12 : decode b_L_height 12 = .ok (.astore_n 3, 1) := by decide +kernel
theorem d_L_height_13 : decode b_L_height 13 = .ok (.iconst 1, 1) := by decide +kernel
theorem d_L_height_14 : decode b_L_height 14 = .ok (.ireturn, 1) := by decide +kernel
theorem d_L_height_15 : decode b_L_height 15 = .ok (.iconst 0, 1) := by decide +kernel
theorem d_L_height_16 : decode b_L_height 16 = .ok (.ireturn, 1) := by decide +kernel
theorem d_L_mean_0 : decode b_L_mean 0 = .ok (.aload_n 3, 1) := by decide +kernel
theorem d_L_mean_1 : decode b_L_mean 1 = .ok (.iconst 0, 1) := by decide +kernel
theorem d_L_mean_2 : decode b_L_mean 2 = .ok (.aload_n 0, 1) := by decide +kernel
theorem d_L_mean_3 : decode b_L_mean 3 = .ok (.iload_n 1, 1) := by decide +kernel
theorem d_L_mean_4 : decode b_L_mean 4 = .ok (.iload_n 2, 1) := by decide +kernel
theorem d_L_mean_5 : decode b_L_mean 5 = .ok (.invokevirtual 46, 3) := by decide +kernel
theorem d_L_mean_8 : decode b_L_mean 8 = .ok (.i2l, 1) := by decide +kernel
theorem d_L_mean_9 : decode b_L_mean 9 = .ok (.lastore, 1) := by decide +kernel
theorem d_L_mean_10 : decode b_L_mean 10 = .ok (.goto 11, 3) := by decide +kernel
theorem d_L_mean_13 : decode b_L_mean 13 = .ok (.astore 4, 2) := by decide +kernel
theorem d_L_mean_15 : decode b_L_mean 15 = .ok (.iconst 1, 1) := by decide +kernel
theorem d_L_mean_16 : decode b_L_mean 16 = .ok (.ireturn, 1) := by decide +kernel
theorem d_L_mean_17 : decode b_L_mean 17 = .ok (.astore 4, 2) := by decide +kernel
theorem d_L_mean_19 : decode b_L_mean 19 = .ok (.iconst 2, 1) := by decide +kernel
theorem d_L_mean_20 : decode b_L_mean 20 = .ok (.ireturn, 1) := by decide +kernel
theorem d_L_mean_21 : decode b_L_mean 21 = .ok (.iconst 0, 1) := by decide +kernel
theorem d_L_mean_22 : decode b_L_mean 22 = .ok (.ireturn, 1) := by decide +kernel
theorem d_L_extremes_0 : decode b_L_extremes 0 = .ok (.aload_n 2, 1) := by decide +kernel
theorem d_L_extremes_1 : decode b_L_extremes 1 = .ok (.iconst 0, 1) := by decide +kernel
theorem d_L_extremes_2 : decode b_L_extremes 2 = .ok (.aload_n 0, 1) := by decide +kernel
theorem d_L_extremes_3 : decode b_L_extremes 3 = .ok (.iload_n 1, 1) := by decide +kernel
theorem d_L_extremes_4 : decode b_L_extremes 4 = .ok (.invokevirtual 49, 3) := by decide +kernel
theorem d_L_extremes_7 : decode b_L_extremes 7 = .ok (.i2l, 1) := by decide +kernel
theorem d_L_extremes_8 : decode b_L_extremes 8 = .ok (.lastore, 1) := by decide +kernel
theorem d_L_extremes_9 : decode b_L_extremes 9 = .ok (.goto 6, 3) := by decide +kernel
theorem d_L_extremes_12 : decode b_L_extremes 12 = .ok (.astore_n 3, 1) := by decide +kernel
theorem d_L_extremes_13 : decode b_L_extremes 13 = .ok (.iconst 1, 1) := by decide +kernel
theorem d_L_extremes_14 : decode b_L_extremes 14 = .ok (.ireturn, 1) := by decide +kernel
theorem d_L_extremes_15 : decode b_L_extremes 15 = .ok (.iconst 0, 1) := by decide +kernel
theorem d_L_extremes_16 : decode b_L_extremes 16 = .ok (.ireturn, 1) := by decide +kernel
theorem d_L_extreme_0 : decode b_L_extreme 0 = .ok (.aload 4, 2) := by decide +kernel
theorem d_L_extreme_2 : decode b_L_extreme 2 = .ok (.iconst 0, 1) := by decide +kernel
theorem d_L_extreme_3 : decode b_L_extreme 3 = .ok (.aload_n 0, 1) := by decide +kernel
theorem d_L_extreme_4 : decode b_L_extreme 4 = .ok (.iload_n 1, 1) := by decide +kernel
theorem d_L_extreme_5 : decode b_L_extreme 5 = .ok (.iload_n 2, 1) := by decide +kernel
theorem d_L_extreme_6 : decode b_L_extreme 6 = .ok (.iload_n 3, 1) := by decide +kernel
theorem d_L_extreme_7 : decode b_L_extreme 7 = .ok (.invokevirtual 52, 3) := by decide +kernel
theorem d_L_extreme_10 : decode b_L_extreme 10 = .ok (.i2l, 1) := by decide +kernel
theorem d_L_extreme_11 : decode b_L_extreme 11 = .ok (.lastore, 1) := by decide +kernel
theorem d_L_extreme_12 : decode b_L_extreme 12 = .ok (.goto 11, 3) := by decide +kernel
theorem d_L_extreme_15 : decode b_L_extreme 15 = .ok (.astore 5, 2) := by decide +kernel
theorem d_L_extreme_17 : decode b_L_extreme 17 = .ok (.iconst 1, 1) := by decide +kernel
theorem d_L_extreme_18 : decode b_L_extreme 18 = .ok (.ireturn, 1) := by decide +kernel
theorem d_L_extreme_19 : decode b_L_extreme 19 = .ok (.astore 5, 2) := by decide +kernel
theorem d_L_extreme_21 : decode b_L_extreme 21 = .ok (.iconst 2, 1) := by decide +kernel
theorem d_L_extreme_22 : decode b_L_extreme 22 = .ok (.ireturn, 1) := by decide +kernel
theorem d_L_extreme_23 : decode b_L_extreme 23 = .ok (.iconst 0, 1) := by decide +kernel
theorem d_L_extreme_24 : decode b_L_extreme 24 = .ok (.ireturn, 1) := by decide +kernel
theorem d_L_line_0 : decode b_L_line 0 = .ok (.aload_n 3, 1) := by decide +kernel
theorem d_L_line_1 : decode b_L_line 1 = .ok (.iconst 0, 1) := by decide +kernel
theorem d_L_line_2 : decode b_L_line 2 = .ok (.aload_n 0, 1) := by decide +kernel
theorem d_L_line_3 : decode b_L_line 3 = .ok (.iload_n 1, 1) := by decide +kernel
theorem d_L_line_4 : decode b_L_line 4 = .ok (.iload_n 2, 1) := by decide +kernel
theorem d_L_line_5 : decode b_L_line 5 = .ok (.invokevirtual 56, 3) := by decide +kernel
theorem d_L_line_8 : decode b_L_line 8 = .ok (.i2l, 1) := by decide +kernel
theorem d_L_line_9 : decode b_L_line 9 = .ok (.lastore, 1) := by decide +kernel
theorem d_L_line_10 : decode b_L_line 10 = .ok (.goto 7, 3) := by decide +kernel
theorem d_L_line_13 : decode b_L_line 13 = .ok (.astore 4, 2) := by decide +kernel
theorem d_L_line_15 : decode b_L_line 15 = .ok (.iconst 1, 1) := by decide +kernel
theorem d_L_line_16 : decode b_L_line 16 = .ok (.ireturn, 1) := by decide +kernel
theorem d_L_line_17 : decode b_L_line 17 = .ok (.iconst 0, 1) := by decide +kernel
theorem d_L_line_18 : decode b_L_line 18 = .ok (.ireturn, 1) := by decide +kernel
theorem d_L_sign_0 : decode b_L_sign 0 = .ok (.aload 4, 2) := by decide +kernel
theorem d_L_sign_2 : decode b_L_sign 2 = .ok (.iconst 0, 1) := by decide +kernel
theorem d_L_sign_3 : decode b_L_sign 3 = .ok (.aload_n 0, 1) := by decide +kernel
theorem d_L_sign_4 : decode b_L_sign 4 = .ok (.iload_n 1, 1) := by decide +kernel
theorem d_L_sign_5 : decode b_L_sign 5 = .ok (.iload_n 2, 1) := by decide +kernel
theorem d_L_sign_6 : decode b_L_sign 6 = .ok (.iload_n 3, 1) := by decide +kernel
theorem d_L_sign_7 : decode b_L_sign 7 = .ok (.invokevirtual 59, 3) := by decide +kernel
theorem d_L_sign_10 : decode b_L_sign 10 = .ok (.i2l, 1) := by decide +kernel
theorem d_L_sign_11 : decode b_L_sign 11 = .ok (.lastore, 1) := by decide +kernel
theorem d_L_sign_12 : decode b_L_sign 12 = .ok (.goto 7, 3) := by decide +kernel
theorem d_L_sign_15 : decode b_L_sign 15 = .ok (.astore 5, 2) := by decide +kernel
theorem d_L_sign_17 : decode b_L_sign 17 = .ok (.iconst 1, 1) := by decide +kernel
theorem d_L_sign_18 : decode b_L_sign 18 = .ok (.ireturn, 1) := by decide +kernel
theorem d_L_sign_19 : decode b_L_sign 19 = .ok (.iconst 0, 1) := by decide +kernel
theorem d_L_sign_20 : decode b_L_sign 20 = .ok (.ireturn, 1) := by decide +kernel
theorem d_L_above_0 : decode b_L_above 0 = .ok (.aload 4, 2) := by decide +kernel
theorem d_L_above_2 : decode b_L_above 2 = .ok (.iconst 0, 1) := by decide +kernel
theorem d_L_above_3 : decode b_L_above 3 = .ok (.aload_n 0, 1) := by decide +kernel
theorem d_L_above_4 : decode b_L_above 4 = .ok (.iload_n 1, 1) := by decide +kernel
theorem d_L_above_5 : decode b_L_above 5 = .ok (.iload_n 2, 1) := by decide +kernel
theorem d_L_above_6 : decode b_L_above 6 = .ok (.iload_n 3, 1) := by decide +kernel
theorem d_L_above_7 : decode b_L_above 7 = .ok (.invokevirtual 62, 3) := by decide +kernel
theorem d_L_above_10 : decode b_L_above 10 = .ok (.i2l, 1) := by decide +kernel
theorem d_L_above_11 : decode b_L_above 11 = .ok (.lastore, 1) := by decide +kernel
theorem d_L_above_12 : decode b_L_above 12 = .ok (.goto 11, 3) := by decide +kernel
theorem d_L_above_15 : decode b_L_above 15 = .ok (.astore 5, 2) := by decide +kernel
theorem d_L_above_17 : decode b_L_above 17 = .ok (.iconst 1, 1) := by decide +kernel
theorem d_L_above_18 : decode b_L_above 18 = .ok (.ireturn, 1) := by decide +kernel
theorem d_L_above_19 : decode b_L_above 19 = .ok (.astore 5, 2) := by decide +kernel
theorem d_L_above_21 : decode b_L_above 21 = .ok (.iconst 2, 1) := by decide +kernel
theorem d_L_above_22 : decode b_L_above 22 = .ok (.ireturn, 1) := by decide +kernel
theorem d_L_above_23 : decode b_L_above 23 = .ok (.iconst 0, 1) := by decide +kernel
theorem d_L_above_24 : decode b_L_above 24 = .ok (.ireturn, 1) := by decide +kernel
