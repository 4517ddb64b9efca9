theorem d_L_cell_0 : decode b_L_cell 0 = .ok (.iload_n 1, 1) := by decide +kernel
theorem d_L_cell_1 : decode b_L_cell 1 = .ok (.aload_n 0, 1) := by decide +kernel
theorem d_L_cell_2 : decode b_L_cell 2 = .ok (.arraylength, 1) := by decide +kernel
theorem d_L_cell_3 : decode b_L_cell 3 = .ok (.if_icmp .ge 9, 3) := by decide +kernel
theorem d_L_cell_6 : decode b_L_cell 6 = .ok (.aload_n 0, 1) := by decide +kernel
theorem d_L_cell_7 : decode b_L_cell 7 = .ok (.iload_n 1, 1) := by decide +kernel
theorem d_L_cell_8 : decode b_L_cell 8 = .ok (.iaload, 1) := by decide +kernel
theorem d_L_cell_9 : decode b_L_cell 9 = .ok (.goto 4, 3) := by decide +kernel
theorem d_L_cell_12 : decode b_L_cell 12 = .ok (.iconst 0, 1) := by decide +kernel
theorem d_L_cell_13 : decode b_L_cell 13 = .ok (.ireturn, 1) := by decide +kernel
theorem d_L_tool_0 : decode b_L_tool 0 = .ok (.aload 4, 2) := by decide +kernel
theorem d_L_tool_2 : decode b_L_tool 2 = .ok (.iconst 0, 1) := by decide +kernel
theorem d_L_tool_3 : decode b_L_tool 3 = .ok (.aload_n 0, 1) := by decide +kernel
theorem d_L_tool_4 : decode b_L_tool 4 = .ok (.iload_n 1, 1) := by decide +kernel
theorem d_L_tool_5 : decode b_L_tool 5 = .ok (.iload_n 2, 1) := by decide +kernel
theorem d_L_tool_6 : decode b_L_tool 6 = .ok (.iload_n 3, 1) := by decide +kernel
theorem d_L_tool_7 : decode b_L_tool 7 = .ok (.invokevirtual 7, 3) := by decide +kernel
theorem d_L_tool_10 : decode b_L_tool 10 = .ok (.i2l, 1) := by decide +kernel
theorem d_L_tool_11 : decode b_L_tool 11 = .ok (.lastore, 1) := by decide +kernel
theorem d_L_tool_12 : decode b_L_tool 12 = .ok (.goto 15, 3) := by decide +kernel
theorem d_L_tool_15 : decode b_L_tool 15 = .ok (.astore 5, 2) := by decide +kernel
theorem d_L_tool_17 : decode b_L_tool 17 = .ok (.iconst 1, 1) := by decide +kernel
theorem d_L_tool_18 : decode b_L_tool 18 = .ok (.ireturn, 1) := by decide +kernel
theorem d_L_tool_19 : decode b_L_tool 19 = .ok (.astore 5, 2) := by decide +kernel
theorem d_L_tool_21 : decode b_L_tool 21 = .ok (.iconst 2, 1) := by decide +kernel
theorem d_L_tool_22 : decode b_L_tool 22 = .ok (.ireturn, 1) := by decide +kernel
theorem d_L_tool_23 : decode b_L_tool 23 = .ok (.astore 5, 2) := by decide +kernel
theorem d_L_tool_25 : decode b_L_tool 25 = .ok (.iconst 3, 1) := by decide +kernel
theorem d_L_tool_26 : decode b_L_tool 26 = .ok (.ireturn, 1) := by decide +kernel
theorem d_L_tool_27 : decode b_L_tool 27 = .ok (.iconst 0, 1) := by decide +kernel
theorem d_L_tool_28 : decode b_L_tool 28 = .ok (.ireturn, 1) := by decide +kernel
theorem d_L_rate_0 : decode b_L_rate 0 = .ok (.aload_n 0, 1) := by decide +kernel
theorem d_L_rate_1 : decode b_L_rate 1 = .ok (.iload_n 1, 1) := by decide +kernel
theorem d_L_rate_2 : decode b_L_rate 2 = .ok (.iload_n 2, 1) := by decide +kernel
theorem d_L_rate_3 : decode b_L_rate 3 = .ok (.iload_n 3, 1) := by decide +kernel
theorem d_L_rate_4 : decode b_L_rate 4 = .ok (.invokevirtual 19, 3) := by decide +kernel
theorem d_L_rate_7 : decode b_L_rate 7 = .ok (.goto 11, 3) := by decide +kernel
theorem d_L_rate_10 : decode b_L_rate 10 = .ok (.astore 4, 2) := by decide +kernel
theorem d_L_rate_12 : decode b_L_rate 12 = .ok (.iconst 1, 1) := by decide +kernel
theorem d_L_rate_13 : decode b_L_rate 13 = .ok (.ireturn, 1) := by decide +kernel
theorem d_L_rate_14 : decode b_L_rate 14 = .ok (.astore 4, 2) := by decide +kernel
theorem d_L_rate_16 : decode b_L_rate 16 = .ok (.iconst 2, 1) := by decide +kernel
theorem d_L_rate_17 : decode b_L_rate 17 = .ok (.ireturn, 1) := by decide +kernel
theorem d_L_rate_18 : decode b_L_rate 18 = .ok (.iconst 0, 1) := by decide +kernel
theorem d_L_rate_19 : decode b_L_rate 19 = .ok (.ireturn, 1) := by decide +kernel
theorem d_L_limit_0 : decode b_L_limit 0 = .ok (.aload_n 0, 1) := by decide +kernel
theorem d_L_limit_1 : decode b_L_limit 1 = .ok (.iload_n 1, 1) := by decide +kernel
theorem d_L_limit_2 : decode b_L_limit 2 = .ok (.lload_n 2, 1) := by decide +kernel
theorem d_L_limit_3 : decode b_L_limit 3 = .ok (.invokevirtual 23, 3) := by decide +kernel
theorem d_L_limit_6 : decode b_L_limit 6 = .ok (.goto 11, 3) := by decide +kernel
theorem d_L_limit_9 : decode b_L_limit 9 = .ok (.astore 4, 2) := by decide +kernel
theorem d_L_limit_11 : decode b_L_limit 11 = .ok (.iconst 1, 1) := by decide +kernel
theorem d_L_limit_12 : decode b_L_limit 12 = .ok (.ireturn, 1) := by decide +kernel
theorem d_L_limit_13 : decode b_L_limit 13 = .ok (.astore 4, 2) := by decide +kernel
theorem d_L_limit_15 : decode b_L_limit 15 = .ok (.iconst 2, 1) := by decide +kernel
theorem d_L_limit_16 : decode b_L_limit 16 = .ok (.ireturn, 1) := by decide +kernel
theorem d_L_limit_17 : decode b_L_limit 17 = .ok (.iconst 0, 1) := by decide +kernel
theorem d_L_limit_18 : decode b_L_limit 18 = .ok (.ireturn, 1) := by decide +kernel
theorem d_L_use_0 : decode b_L_use 0 = .ok (.aload 5, 2) := by decide +kernel
theorem d_L_use_2 : decode b_L_use 2 = .ok (.iconst 0, 1) := by decide +kernel
theorem d_L_use_3 : decode b_L_use 3 = .ok (.aload_n 0, 1) := by decide +kernel
theorem d_L_use_4 : decode b_L_use 4 = .ok (.iload_n 1, 1) := by decide +kernel
theorem d_L_use_5 : decode b_L_use 5 = .ok (.iload_n 2, 1) := by decide +kernel
theorem d_L_use_6 : decode b_L_use 6 = .ok (.iload_n 3, 1) := by decide +kernel
theorem d_L_use_7 : decode b_L_use 7 = .ok (.iload 4, 2) := by decide +kernel
theorem d_L_use_9 : decode b_L_use 9 = .ok (.invokevirtual 27, 3) := by decide +kernel
theorem d_L_use_12 : decode b_L_use 12 = .ok (.ifCond .eq 7, 3) := by decide +kernel
theorem d_L_use_15 : decode b_L_use 15 = .ok (.lconst 1, 1) := by decide +kernel
theorem d_L_use_16 : decode b_L_use 16 = .ok (.goto 4, 3) := by decide +kernel
theorem d_L_use_19 : decode b_L_use 19 = .ok (.lconst 0, 1) := by decide +kernel
theorem d_L_use_20 : decode b_L_use 20 = .ok (.lastore, 1) := by decide +kernel
theorem d_L_use_21 : decode b_L_use 21 = .ok (.goto 15, 3) := by decide +kernel
theorem d_L_use_24 : decode b_L_use 24 = .ok (.astore 6, 2) := by decide +kernel
theorem d_L_use_26 : decode b_L_use 26 = .ok (.iconst 1, 1) := by decide +kernel
theorem d_L_use_27 : decode b_L_use 27 = .ok (.ireturn, 1) := by decide +kernel
theorem d_L_use_28 : decode b_L_use 28 = .ok (.astore 6, 2) := by decide +kernel
theorem d_L_use_30 : decode b_L_use 30 = .ok (.iconst 2, 1) := by decide +kernel
theorem d_L_use_31 : decode b_L_use 31 = .ok (.ireturn, 1) := by decide +kernel
theorem d_L_use_32 : decode b_L_use 32 = .ok (.astore 6, 2) := by decide +kernel
theorem d_L_use_34 : decode b_L_use 34 = .ok (.iconst 3, 1) := by decide +kernel
theorem d_L_use_35 : decode b_L_use 35 = .ok (.ireturn, 1) := by decide +kernel
theorem d_L_use_36 : decode b_L_use 36 = .ok (.iconst 0, 1) := by decide +kernel
theorem d_L_use_37 : decode b_L_use 37 = .ok (.ireturn, 1) := by decide +kernel
theorem d_L_grind_0 : decode b_L_grind 0 = .ok (.aload_n 3, 1) := by decide +kernel
theorem d_L_grind_1 : decode b_L_grind 1 = .ok (.iconst 0, 1) := by decide +kernel
theorem d_L_grind_2 : decode b_L_grind 2 = .ok (.aload_n 0, 1) := by decide +kernel
theorem d_L_grind_3 : decode b_L_grind 3 = .ok (.iload_n 1, 1) := by decide +kernel
theorem d_L_grind_4 : decode b_L_grind 4 = .ok (.iload_n 2, 1) := by decide +kernel
theorem d_L_grind_5 : decode b_L_grind 5 = .ok (.invokevirtual 31, 3) := by decide +kernel
theorem d_L_grind_8 : decode b_L_grind 8 = .ok (.ifCond .eq 7, 3) := by decide +kernel
theorem d_L_grind_11 : decode b_L_grind 11 = .ok (.lconst 1, 1) := by decide +kernel
theorem d_L_grind_12 : decode b_L_grind 12 = .ok (.goto 4, 3) := by decide +kernel
theorem d_L_grind_15 : decode b_L_grind 15 = .ok (.lconst 0, 1) := by decide +kernel
theorem d_L_grind_16 : decode b_L_grind 16 = .ok (.lastore, 1) := by decide +kernel
theorem d_L_grind_17 : decode b_L_grind 17 = .ok (.goto 15, 3) := by decide +kernel
theorem d_L_grind_20 : decode b_L_grind 20 = .ok (.astore 4, 2) := by decide +kernel
theorem d_L_grind_22 : decode b_L_grind 22 = .ok (.iconst 1, 1) := by decide +kernel
theorem d_L_grind_23 : decode b_L_grind 23 = .ok (.ireturn, 1) := by decide +kernel
theorem d_L_grind_24 : decode b_L_grind 24 = .ok (.astore 4, 2) := by decide +kernel
theorem d_L_grind_26 : decode b_L_grind 26 = .ok (.iconst 2, 1) := by decide +kernel
theorem d_L_grind_27 : decode b_L_grind 27 = .ok (.ireturn, 1) := by decide +kernel
theorem d_L_grind_28 : decode b_L_grind 28 = .ok (.astore 4, 2) := by decide +kernel
theorem d_L_grind_30 : decode b_L_grind 30 = .ok (.iconst 3, 1) := by decide +kernel
theorem d_L_grind_31 : decode b_L_grind 31 = .ok (.ireturn, 1) := by decide +kernel
theorem d_L_grind_32 : decode b_L_grind 32 = .ok (.iconst 0, 1) := by decide +kernel
theorem d_L_grind_33 : decode b_L_grind 33 = .ok (.ireturn, 1) := by decide +kernel
theorem d_L_about_0 : decode b_L_about 0 = .ok (.aload_n 3, 1) := by decide +kernel
theorem d_L_about_1 : decode b_L_about 1 = .ok (.iconst 0, 1) := by decide +kernel
theorem d_L_about_2 : decode b_L_about 2 = .ok (.aload_n 0, 1) := by decide +kernel
theorem d_L_about_3 : decode b_L_about 3 = .ok (.iload_n 1, 1) := by decide +kernel
theorem d_L_about_4 : decode b_L_about 4 = .ok (.iload_n 2, 1) := by decide +kernel
theorem d_L_about_5 : decode b_L_about 5 = .ok (.invokevirtual 35, 3) := by decide +kernel
theorem d_L_about_8 : decode b_L_about 8 = .ok (.lastore, 1) := by decide +kernel
theorem d_L_about_9 : decode b_L_about 9 = .ok (.goto 7, 3) := by decide +kernel
theorem d_L_about_12 : decode b_L_about 12 = .ok (.astore 4, 2) := by decide +kernel
theorem d_L_about_14 : decode b_L_about 14 = .ok (.iconst 1, 1) := by decide +kernel
theorem d_L_about_15 : decode b_L_about 15 = .ok (.ireturn, 1) := by decide +kernel
theorem d_L_about_16 : decode b_L_about 16 = .ok (.iconst 0, 1) := by decide +kernel
theorem d_L_about_17 : decode b_L_about 17 = .ok (.ireturn, 1) := by decide +kernel
theorem d_L_spare_0 : decode b_L_spare 0 = .ok (.aload_n 2, 1) := by decide +kernel
theorem d_L_spare_1 : decode b_L_spare 1 = .ok (.iconst 0, 1) := by decide +kernel
theorem d_L_spare_2 : decode b_L_spare 2 = .ok (.aload_n 0, 1) := by decide +kernel
theorem d_L_spare_3 : decode b_L_spare 3 = .ok (.iload_n 1, 1) := by decide +kernel
theorem d_L_spare_4 : decode b_L_spare 4 = .ok (.invokevirtual 39, 3) := by decide +kernel
theorem d_L_spare_7 : decode b_L_spare 7 = .ok (.i2l, 1) := by decide +kernel
theorem d_L_spare_8 : decode b_L_spare 8 = .ok (.lastore, 1) := by decide +kernel
theorem d_L_spare_9 : decode b_L_spare 9 = .ok (.goto 6, 3) := by decide +kernel
theorem d_L_spare_12 : decode b_L_spare 12 = .ok (.astore_n 3, 1) := by decide +kernel
theorem d_L_spare_13 : decode b_L_spare 13 = .ok (.iconst 1, 1) := by decide +kernel
theorem d_L_spare_14 : decode b_L_spare 14 = .ok (.ireturn, 1) := by decide +kernel
theorem d_L_spare_15 : decode b_L_spare 15 = .ok (.iconst 0, 1) := by decide +kernel
theorem d_L_spare_16 : decode b_L_spare 16 = .ok (.ireturn, 1) := by decide +kernel
theorem d_L_take_0 : decode b_L_take 0 = .ok (.aload_n 2, 1) := by decide +kernel
theorem d_L_take_1 : decode b_L_take 1 = .ok (.iconst 0, 1) := by decide +kernel
theorem d_L_take_2 : decode b_L_take 2 = .ok (.aload_n 0, 1) := by decide +kernel
theorem d_L_take_3 : decode b_L_take 3 = .ok (.iload_n 1, 1) := by decide +kernel
theorem d_L_take_4 : decode b_L_take 4 = .ok (.invokevirtual 43, 3) := by decide +kernel
theorem d_L_take_7 : decode b_L_take 7 = .ok (.i2l, 1) := by decide +kernel
theorem d_L_take_8 : decode b_L_take 8 = .ok (.lastore, 1) := by decide +kernel
theorem d_L_take_9 : decode b_L_take 9 = .ok (.goto 6, 3) := by decide +kernel
theorem d_L_take_12 : decode b_L_take 12 = .ok (.astore_n 3, 1) := by decide +kernel
theorem d_L_take_13 : decode b_L_take 13 = .ok (.iconst 1, 1) := by decide +kernel
theorem d_L_take_14 : decode b_L_take 14 = .ok (.ireturn, 1) := by decide +kernel
theorem d_L_take_15 : decode b_L_take 15 = .ok (.iconst 0, 1) := by decide +kernel
theorem d_L_take_16 : decode b_L_take 16 = .ok (.ireturn, 1) := by decide +kernel
theorem d_L_bring_0 : decode b_L_bring 0 = .ok (.aload_n 2, 1) := by decide +kernel
theorem d_L_bring_1 : decode b_L_bring 1 = .ok (.iconst 0, 1) := by decide +kernel
theorem d_L_bring_2 : decode b_L_bring 2 = .ok (.aload_n 0, 1) := by decide +kernel
theorem d_L_bring_3 : decode b_L_bring 3 = .ok (.iload_n 1, 1) := by decide +kernel
theorem d_L_bring_4 : decode b_L_bring 4 = .ok (.invokevirtual 46, 3) := by decide +kernel
theorem d_L_bring_7 : decode b_L_bring 7 = .ok (.ifCond .eq 7, 3) := by decide +kernel
theorem d_L_bring_10 : decode b_L_bring 10 = .ok (.lconst 1, 1) := by decide +kernel
theorem d_L_bring_11 : decode b_L_bring 11 = .ok (.goto 4, 3) := by decide +kernel
theorem d_L_bring_14 : decode b_L_bring 14 = .ok (.lconst 0, 1) := by decide +kernel
theorem d_L_bring_15 : decode b_L_bring 15 = .ok (.lastore, 1) := by decide +kernel
theorem d_L_bring_16 : decode b_L_bring 16 = .ok (.goto 6, 3) := by decide +kernel
theorem d_L_bring_19 : decode b_L_bring 19 = .ok (.astore_n 3, 1) := by decide +kernel
theorem d_L_bring_20 : decode b_L_bring 20 = .ok (.iconst 1, 1) := by decide +kernel
theorem d_L_bring_21 : decode b_L_bring 21 = .ok (.ireturn, 1) := by decide +kernel
theorem d_L_bring_22 : decode b_L_bring 22 = .ok (.iconst 0, 1) := by decide +kernel
theorem d_L_bring_23 : decode b_L_bring 23 = .ok (.ireturn, 1) := by decide +kernel
theorem d_L_life_0 : decode b_L_life 0 = .ok (.aload_n 3, 1) := by decide +kernel
theorem d_L_life_1 : decode b_L_life 1 = .ok (.iconst 0, 1) := by decide +kernel
theorem d_L_life_2 : decode b_L_life 2 = .ok (.aload_n 0, 1) := by decide +kernel
theorem d_L_life_3 : decode b_L_life 3 = .ok (.iload_n 1, 1) := by decide +kernel
theorem d_L_life_4 : decode b_L_life 4 = .ok (.iload_n 2, 1) := by decide +kernel
theorem d_L_life_5 : decode b_L_life 5 = .ok (.invokevirtual 50, 3) := by decide +kernel
theorem d_L_life_8 : decode b_L_life 8 = .ok (.i2l, 1) := by decide +kernel
theorem d_L_life_9 : decode b_L_life 9 = .ok (.lastore, 1) := by decide +kernel
theorem d_L_life_10 : decode b_L_life 10 = .ok (.goto 15, 3) := by decide +kernel
theorem d_L_life_13 : decode b_L_life 13 = .ok (.astore 4, 2) := by decide +kernel
theorem d_L_life_15 : decode b_L_life 15 = .ok (.iconst 1, 1) := by decide +kernel
theorem d_L_life_16 : decode b_L_life 16 = .ok (.ireturn, 1) := by decide +kernel
theorem d_L_life_17 : decode b_L_life 17 = .ok (.astore 4, 2) := by decide +kernel
theorem d_L_life_19 : decode b_L_life 19 = .ok (.iconst 2, 1) := by decide +kernel
theorem d_L_life_20 : decode b_L_life 20 = .ok (.ireturn, 1) := by decide +kernel
theorem d_L_life_21 : decode b_L_life 21 = .ok (.astore 4, 2) := by decide +kernel
theorem d_L_life_23 : decode b_L_life 23 = .ok (.iconst 3, 1) := by decide +kernel
theorem d_L_life_24 : decode b_L_life 24 = .ok (.ireturn, 1) := by decide +kernel
theorem d_L_life_25 : decode b_L_life 25 = .ok (.iconst 0, 1) := by decide +kernel
theorem d_L_life_26 : decode b_L_life 26 = .ok (.ireturn, 1) := by decide +kernel
theorem d_L_cost_0 : decode b_L_cost 0 = .ok (.aload_n 0, 1) := by decide +kernel
theorem d_L_cost_1 : decode b_L_cost 1 = .ok (.iload_n 1, 1) := by decide +kernel
theorem d_L_cost_2 : decode b_L_cost 2 = .ok (.iload_n 2, 1) := by decide +kernel
theorem d_L_cost_3 : decode b_L_cost 3 = .ok (.iload_n 3, 1) := by decide +kernel
theorem d_L_cost_4 : decode b_L_cost 4 = .ok (.invokevirtual 54, 3) := by decide +kernel
theorem d_L_cost_7 : decode b_L_cost 7 = .ok (.goto 11, 3) := by decide +kernel
theorem d_L_cost_10 : decode b_L_cost 10 = .ok (.astore 4, 2) := by decide +kernel
theorem d_L_cost_12 : decode b_L_cost 12 = .ok (.iconst 1, 1) := by decide +kernel
theorem d_L_cost_13 : decode b_L_cost 13 = .ok (.ireturn, 1) := by decide +kernel
theorem d_L_cost_14 : decode b_L_cost 14 = .ok (.astore 4, 2) := by decide +kernel
theorem d_L_cost_16 : decode b_L_cost 16 = .ok (.iconst 2, 1) := by decide +kernel
theorem d_L_cost_17 : decode b_L_cost 17 = .ok (.ireturn, 1) := by decide +kernel
theorem d_L_cost_18 : decode b_L_cost 18 = .ok (.iconst 0, 1) := by decide +kernel
theorem d_L_cost_19 : decode b_L_cost 19 = .ok (.ireturn, 1) := by decide +kernel
theorem d_L_change_0 : decode b_L_change 0 = .ok (.aload_n 2, 1) := by decide +kernel
theorem d_L_change_1 : decode b_L_change 1 = .ok (.iconst 0, 1) := by decide +kernel
theorem d_L_change_2 : decode b_L_change 2 = .ok (.aload_n 0, 1) := by decide +kernel
theorem d_L_change_3 : decode b_L_change 3 = .ok (.iload_n 1, 1) := by decide +kernel
theorem d_L_change_4 : decode b_L_change 4 = .ok (.invokevirtual 57, 3) := by decide +kernel
theorem d_L_change_7 : decode b_L_change 7 = .ok (.i2l, 1) := by decide +kernel
theorem d_L_change_8 : decode b_L_change 8 = .ok (.lastore, 1) := by decide +kernel
theorem d_L_change_9 : decode b_L_change 9 = .ok (.goto 9, 3) := by decide +kernel
theorem d_L_change_12 : decode b_L_change 12 = .ok (.astore_n 3, 1) := by decide +kernel
theorem d_L_change_13 : decode b_L_change 13 = .ok (.iconst 1, 1) := by decide +kernel
theorem d_L_change_14 : decode b_L_change 14 = .ok (.ireturn, 1) := by decide +kernel
theorem d_L_change_15 : decode b_L_change 15 = .ok (.astore_n 3, 1) := by decide +kernel
theorem d_L_change_16 : decode b_L_change 16 = .ok (.iconst 2, 1) := by decide +kernel
theorem d_L_change_17 : decode b_L_change 17 = .ok (.ireturn, 1) := by decide +kernel
theorem d_L_change_18 : decode b_L_change 18 = .ok (.iconst 0, 1) := by decide +kernel
theorem d_L_change_19 : decode b_L_change 19 = .ok (.ireturn, 1) := by decide +kernel
theorem d_L_changed_0 : decode b_L_changed 0 = .ok (.aload 4, 2) := by decide +kernel
theorem d_L_changed_2 : decode b_L_changed 2 = .ok (.iconst 0, 1) := by decide +kernel
theorem d_L_changed_3 : decode b_L_changed 3 = .ok (.aload_n 0, 1) := by decide +kernel
theorem d_L_changed_4 : decode b_L_changed 4 = .ok (.iload_n 1, 1) := by decide +kernel
theorem d_L_changed_5 : decode b_L_changed 5 = .ok (.iload_n 2, 1) := by decide +kernel
theorem d_L_changed_6 : decode b_L_changed 6 = .ok (.iload_n 3, 1) := by decide +kernel
theorem d_L_changed_7 : decode b_L_changed 7 = .ok (.invokevirtual 60, 3) := by decide +kernel
theorem d_L_changed_10 : decode b_L_changed 10 = .ok (.lastore, 1) := by decide +kernel
theorem d_L_changed_11 : decode b_L_changed 11 = .ok (.goto 15, 3) := by decide +kernel
theorem d_L_changed_14 : decode b_L_changed 14 = .ok (.astore 5, 2) := by decide +kernel
theorem d_L_changed_16 : decode b_L_changed 16 = .ok (.iconst 1, 1) := by decide +kernel
theorem d_L_changed_17 : decode b_L_changed 17 = .ok (.ireturn, 1) := by decide +kernel
theorem d_L_changed_18 : decode b_L_changed 18 = .ok (.astore 5, 2) := by decide +kernel
theorem d_L_changed_20 : decode b_L_changed 20 = .ok (.iconst 2, 1) := by decide +kernel
theorem d_L_changed_21 : decode b_L_changed 21 = .ok (.ireturn, 1) := by decide +kernel
theorem d_L_changed_22 : decode b_L_changed 22 = .ok (.astore 5, 2) := by decide +kernel
theorem d_L_changed_24 : decode b_L_changed 24 = .ok (.iconst 3, 1) := by decide +kernel
theorem d_L_changed_25 : decode b_L_changed 25 = .ok (.ireturn, 1) := by decide +kernel
theorem d_L_changed_26 : decode b_L_changed 26 = .ok (.iconst 0, 1) := by decide +kernel
theorem d_L_changed_27 : decode b_L_changed 27 = .ok (.ireturn, 1) := by decide +kernel
theorem d_L_breaks_0 : decode b_L_breaks 0 = .ok (.aload_n 3, 1) := by decide +kernel
theorem d_L_breaks_1 : decode b_L_breaks 1 = .ok (.iconst 0, 1) := by decide +kernel
theorem d_L_breaks_2 : decode b_L_breaks 2 = .ok (.aload_n 0, 1) := by decide +kernel
theorem d_L_breaks_3 : decode b_L_breaks 3 = .ok (.iload_n 1, 1) := by decide +kernel
theorem d_L_breaks_4 : decode b_L_breaks 4 = .ok (.iload_n 2, 1) := by decide +kernel
theorem d_L_breaks_5 : decode b_L_breaks 5 = .ok (.invokevirtual 64, 3) := by decide +kernel
theorem d_L_breaks_8 : decode b_L_breaks 8 = .ok (.i2l, 1) := by decide +kernel
theorem d_L_breaks_9 : decode b_L_breaks 9 = .ok (.lastore, 1) := by decide +kernel
theorem d_L_breaks_10 : decode b_L_breaks 10 = .ok (.goto 15, 3) := by decide +kernel
theorem d_L_breaks_13 : decode b_L_breaks 13 = .ok (.astore 4, 2) := by decide +kernel
theorem d_L_breaks_15 : decode b_L_breaks 15 = .ok (.iconst 1, 1) := by decide +kernel
theorem d_L_breaks_16 : decode b_L_breaks 16 = .ok (.ireturn, 1) := by decide +kernel
theorem d_L_breaks_17 : decode b_L_breaks 17 = .ok (.astore 4, 2) := by decide +kernel
theorem d_L_breaks_19 : decode b_L_breaks 19 = .ok (.iconst 2, 1) := by decide +kernel
theorem d_L_breaks_20 : decode b_L_breaks 20 = .ok (.ireturn, 1) := by decide +kernel
theorem d_L_breaks_21 : decode b_L_breaks 21 = .ok (.astore 4, 2) := by decide +kernel
theorem d_L_breaks_23 : decode b_L_breaks 23 = .ok (.iconst 3, 1) := by decide +kernel
theorem d_L_breaks_24 : decode b_L_breaks 24 = .ok (.ireturn, 1) := by decide +kernel
theorem d_L_breaks_25 : decode b_L_breaks 25 = .ok (.iconst 0, 1) := by decide +kernel
theorem d_L_breaks_26 : decode b_L_breaks 26 = .ok (.ireturn, 1) := by decide +kernel
theorem d_L_rules_0 : decode b_L_rules 0 = .ok (.aload_n 0, 1) := by decide +kernel
theorem d_L_rules_1 : decode b_L_rules 1 = .ok (.iload_n 1, 1) := by decide +kernel
theorem d_L_rules_2 : decode b_L_rules 2 = .ok (.iload_n 2, 1) := by decide +kernel
theorem d_L_rules_3 : decode b_L_rules 3 = .ok (.iload_n 3, 1) := by decide +kernel
theorem d_L_rules_4 : decode b_L_rules 4 = .ok (.iload 4, 2) := by decide +kernel
theorem d_L_rules_6 : decode b_L_rules 6 = .ok (.invokevirtual 67, 3) := by decide +kernel
theorem d_L_rules_9 : decode b_L_rules 9 = .ok (.goto 7, 3) := by decide +kernel
theorem d_L_rules_12 : decode b_L_rules 12 = .ok (.astore 5, 2) := by decide +kernel
theorem d_L_rules_14 : decode b_L_rules 14 = .ok (.iconst 1, 1) := by decide +kernel
theorem d_L_rules_15 : decode b_L_rules 15 = .ok (.ireturn, 1) := by decide +kernel
theorem d_L_rules_16 : decode b_L_rules 16 = .ok (.iconst 0, 1) := by decide +kernel
theorem d_L_rules_17 : decode b_L_rules 17 = .ok (.ireturn, 1) := by decide +kernel
theorem d_L_power_0 : decode b_L_power 0 = .ok (.aload 4, 2) := by decide +kernel
theorem d_L_power_2 : decode b_L_power 2 = .ok (.iconst 0, 1) := by decide +kernel
theorem d_L_power_3 : decode b_L_power 3 = .ok (.aload_n 0, 1) := by decide +kernel
theorem d_L_power_4 : decode b_L_power 4 = .ok (.iload_n 1, 1) := by decide +kernel
theorem d_L_power_5 : decode b_L_power 5 = .ok (.iload_n 2, 1) := by decide +kernel
theorem d_L_power_6 : decode b_L_power 6 = .ok (.iload_n 3, 1) := by decide +kernel
theorem d_L_power_7 : decode b_L_power 7 = .ok (.invokevirtual 71, 3) := by decide +kernel
theorem d_L_power_10 : decode b_L_power 10 = .ok (.i2l, 1) := by decide +kernel
theorem d_L_power_11 : decode b_L_power 11 = .ok (.lastore, 1) := by decide +kernel
theorem d_L_power_12 : decode b_L_power 12 = .ok (.goto 11, 3) := by decide +kernel
theorem d_L_power_15 : decode b_L_power 15 = .ok (.astore 5, 2) := by decide +kernel
theorem d_L_power_17 : decode b_L_power 17 = .ok (.iconst 1, 1) := by decide +kernel
theorem d_L_power_18 : decode b_L_power 18 = .ok (.ireturn, 1) := by decide +kernel
theorem d_L_power_19 : decode b_L_power 19 = .ok (.astore 5, 2) := by decide +kernel
theorem d_L_power_21 : decode b_L_power 21 = .ok (.iconst 2, 1) := by decide +kernel
theorem d_L_power_22 : decode b_L_power 22 = .ok (.ireturn, 1) := by decide +kernel
theorem d_L_power_23 : decode b_L_power 23 = .ok (.iconst 0, 1) := by decide +kernel
theorem d_L_power_24 : decode b_L_power 24 = .ok (.ireturn, 1) := by decide +kernel
theorem d_L_order_0 : decode b_L_order 0 = .ok (.aload_n 3, 1) := by decide +kernel
theorem d_L_order_1 : decode b_L_order 1 = .ok (.iconst 0, 1) := by decide +kernel
theorem d_L_order_2 : decode b_L_order 2 = .ok (.aload_n 0, 1) := by decide +kernel
theorem d_L_order_3 : decode b_L_order 3 = .ok (.iload_n 1, 1) := by decide +kernel
theorem d_L_order_4 : decode b_L_order 4 = .ok (.iload_n 2, 1) := by decide +kernel
theorem d_L_order_5 : decode b_L_order 5 = .ok (.invokevirtual 74, 3) := by decide +kernel
theorem d_L_order_8 : decode b_L_order 8 = .ok (.ifCond .eq 7, 3) := by decide +kernel
theorem d_L_order_11 : decode b_L_order 11 = .ok (.lconst 1, 1) := by decide +kernel
theorem d_L_order_12 : decode b_L_order 12 = .ok (.goto 4, 3) := by decide +kernel
theorem d_L_order_15 : decode b_L_order 15 = .ok (.lconst 0, 1) := by decide +kernel
theorem d_L_order_16 : decode b_L_order 16 = .ok (.lastore, 1) := by decide +kernel
theorem d_L_order_17 : decode b_L_order 17 = .ok (.goto 11, 3) := by decide +kernel
theorem d_L_order_20 : decode b_L_order 20 = .ok (.astore 4, 2) := by decide +kernel
theorem d_L_order_22 : decode b_L_order 22 = .ok (.iconst 1, 1) := by decide +kernel
theorem d_L_order_23 : decode b_L_order 23 = .ok (.ireturn, 1) := by decide +kernel
theorem d_L_order_24 : decode b_L_order 24 = .ok (.astore 4, 2) := by decide +kernel
theorem d_L_order_26 : decode b_L_order 26 = .ok (.iconst 2, 1) := by decide +kernel
theorem d_L_order_27 : decode b_L_order 27 = .ok (.ireturn, 1) := by decide +kernel
theorem d_L_order_28 : decode b_L_order 28 = .ok (.iconst 0, 1) := by decide +kernel
theorem d_L_order_29 : decode b_L_order 29 = .ok (.ireturn, 1) := by decide +kernel
theorem d_L_joined_0 : decode b_L_joined 0 = .ok (.aload_n 3, 1) := by decide +kernel
theorem d_L_joined_1 : decode b_L_joined 1 = .ok (.iconst 0, 1) := by decide +kernel
theorem d_L_joined_2 : decode b_L_joined 2 = .ok (.aload_n 0, 1) := by decide +kernel
theorem d_L_joined_3 : decode b_L_joined 3 = .ok (.iload_n 1, 1) := by decide +kernel
theorem d_L_joined_4 : decode b_L_joined 4 = .ok (.iload_n 2, 1) := by decide +kernel
theorem d_L_joined_5 : decode b_L_joined 5 = .ok (.invokevirtual 77, 3) := by decide +kernel
theorem d_L_joined_8 : decode b_L_joined 8 = .ok (.i2l, 1) := by decide +kernel
theorem d_L_joined_9 : decode b_L_joined 9 = .ok (.lastore, 1) := by decide +kernel
theorem d_L_joined_10 : decode b_L_joined 10 = .ok (.goto 11, 3) := by decide +kernel
theorem d_L_joined_13 : decode b_L_joined 13 = .ok (.astore 4, 2) := by decide +kernel
theorem d_L_joined_15 : decode b_L_joined 15 = .ok (.iconst 1, 1) := by decide +kernel
theorem d_L_joined_16 : decode b_L_joined 16 = .ok (.ireturn, 1) := by decide +kernel
theorem d_L_joined_17 : decode b_L_joined 17 = .ok (.astore 4, 2) := by decide +kernel
theorem d_L_joined_19 : decode b_L_joined 19 = .ok (.iconst 2, 1) := by decide +kernel
theorem d_L_joined_20 : decode b_L_joined 20 = .ok (.ireturn, 1) := by decide +kernel
theorem d_L_joined_21 : decode b_L_joined 21 = .ok (.iconst 0, 1) := by decide +kernel
theorem d_L_joined_22 : decode b_L_joined 22 = .ok (.ireturn, 1) := by decide +kernel
theorem d_L_chip_0 : decode b_L_chip 0 = .ok (.aload 5, 2) := by decide +kernel
theorem d_L_chip_2 : decode b_L_chip 2 = .ok (.iconst 0, 1) := by decide +kernel
theorem d_L_chip_3 : decode b_L_chip 3 = .ok (.aload_n 0, 1) := by decide +kernel
theorem d_L_chip_4 : decode b_L_chip 4 = .ok (.iload_n 1, 1) := by decide +kernel
theorem d_L_chip_5 : decode b_L_chip 5 = .ok (.iload_n 2, 1) := by decide +kernel
theorem d_L_chip_6 : decode b_L_chip 6 = .ok (.iload_n 3, 1) := by decide +kernel
theorem d_L_chip_7 : decode b_L_chip 7 = .ok (.iload 4, 2) := by decide +kernel
theorem d_L_chip_9 : decode b_L_chip 9 = .ok (.invokevirtual 80, 3) := by decide +kernel
theorem d_L_chip_12 : decode b_L_chip 12 = .ok (.i2l, 1) := by decide +kernel
theorem d_L_chip_13 : decode b_L_chip 13 = .ok (.lastore, 1) := by decide +kernel
theorem d_L_chip_14 : decode b_L_chip 14 = .ok (.goto 11, 3) := by decide +kernel
theorem d_L_chip_17 : decode b_L_chip 17 = .ok (.astore 6, 2) := by decide +kernel
theorem d_L_chip_19 : decode b_L_chip 19 = .ok (.iconst 1, 1) := by decide +kernel
theorem d_L_chip_20 : decode b_L_chip 20 = .ok (.ireturn, 1) := by decide +kernel
theorem d_L_chip_21 : decode b_L_chip 21 = .ok (.astore 6, 2) := by decide +kernel
theorem d_L_chip_23 : decode b_L_chip 23 = .ok (.iconst 2, 1) := by decide +kernel
theorem d_L_chip_24 : decode b_L_chip 24 = .ok (.ireturn, 1) := by decide +kernel
theorem d_L_chip_25 : decode b_L_chip 25 = .ok (.iconst 0, 1) := by decide +kernel
theorem d_L_chip_26 : decode b_L_chip 26 = .ok (.ireturn, 1) := by decide +kernel
