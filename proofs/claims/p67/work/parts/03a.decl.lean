theorem dL_draw_0 : decode cL_draw 0 = .ok (.iload_n 1, 1) := by decide +kernel
theorem dL_draw_1 : decode cL_draw 1 = .ok (.aload_n 0, 1) := by decide +kernel
theorem dL_draw_2 : decode cL_draw 2 = .ok (.arraylength, 1) := by decide +kernel
theorem dL_draw_3 : decode cL_draw 3 = .ok (.if_icmp .ge 9, 3) := by decide +kernel
theorem dL_draw_6 : decode cL_draw 6 = .ok (.aload_n 0, 1) := by decide +kernel
theorem dL_draw_7 : decode cL_draw 7 = .ok (.iload_n 1, 1) := by decide +kernel
theorem dL_draw_8 : decode cL_draw 8 = .ok (.iaload, 1) := by decide +kernel
theorem dL_draw_9 : decode cL_draw 9 = .ok (.goto 4, 3) := by decide +kernel
theorem dL_draw_12 : decode cL_draw 12 = .ok (.iconst 0, 1) := by decide +kernel
theorem dL_draw_13 : decode cL_draw 13 = .ok (.ldc 7, 2) := by decide +kernel
theorem dL_draw_15 : decode cL_draw 15 = .ok (.iand, 1) := by decide +kernel
theorem dL_draw_16 : decode cL_draw 16 = .ok (.iload_n 2, 1) := by decide +kernel
theorem dL_draw_17 : decode cL_draw 17 = .ok (.irem, 1) := by decide +kernel
theorem dL_draw_18 : decode cL_draw 18 = .ok (.ireturn, 1) := by decide +kernel
theorem dL_four_0 : decode cL_four 0 = .ok (.iconst 0, 1) := by decide +kernel
theorem dL_four_1 : decode cL_four 1 = .ok (.istore_n 2, 1) := by decide +kernel
theorem dL_four_2 : decode cL_four 2 = .ok (.iconst 0, 1) := by decide +kernel
theorem dL_four_3 : decode cL_four 3 = .ok (.istore_n 3, 1) := by decide +kernel
theorem dL_four_4 : decode cL_four 4 = .ok (.iload_n 3, 1) := by decide +kernel
theorem dL_four_5 : decode cL_four 5 = .ok (.iconst 4, 1) := by decide +kernel
theorem dL_four_6 : decode cL_four 6 = .ok (.if_icmp .ge 36, 3) := by decide +kernel
theorem dL_four_9 : decode cL_four 9 = .ok (.iload_n 2, 1) := by decide +kernel
theorem dL_four_10 : decode cL_four 10 = .ok (.bipush 8, 2) := by decide +kernel
theorem dL_four_12 : decode cL_four 12 = .ok (.ishl, 1) := by decide +kernel
theorem dL_four_13 : decode cL_four 13 = .ok (.iload_n 1, 1) := by decide +kernel
theorem dL_four_14 : decode cL_four 14 = .ok (.iload_n 3, 1) := by decide +kernel
theorem dL_four_15 : decode cL_four 15 = .ok (.iadd, 1) := by decide +kernel
theorem dL_four_16 : decode cL_four 16 = .ok (.aload_n 0, 1) := by decide +kernel
theorem dL_four_17 : decode cL_four 17 = .ok (.invokevirtual 8, 3) := by decide +kernel
theorem dL_four_20 : decode cL_four 20 = .ok (.if_icmp .ge 13, 3) := by decide +kernel
theorem dL_four_23 : decode cL_four 23 = .ok (.aload_n 0, 1) := by decide +kernel
theorem dL_four_24 : decode cL_four 24 = .ok (.iload_n 1, 1) := by decide +kernel
theorem dL_four_25 : decode cL_four 25 = .ok (.iload_n 3, 1) := by decide +kernel
theorem dL_four_26 : decode cL_four 26 = .ok (.iadd, 1) := by decide +kernel
theorem dL_four_27 : decode cL_four 27 = .ok (.invokevirtual 14, 3) := by decide +kernel
theorem dL_four_30 : decode cL_four 30 = .ok (.goto 4, 3) := by decide +kernel
theorem dL_four_33 : decode cL_four 33 = .ok (.iconst 0, 1) := by decide +kernel
theorem dL_four_34 : decode cL_four 34 = .ok (.ior, 1) := by decide +kernel
theorem dL_four_35 : decode cL_four 35 = .ok (.istore_n 2, 1) := by decide +kernel
theorem dL_four_36 : decode cL_four 36 = .ok (.iinc 3 1, 3) := by decide +kernel
theorem dL_four_39 : decode cL_four 39 = .ok (.goto (-35), 3) := by decide +kernel
theorem dL_four_42 : decode cL_four 42 = .ok (.iload_n 2, 1) := by decide +kernel
theorem dL_four_43 : decode cL_four 43 = .ok (.ireturn, 1) := by decide +kernel
theorem dL_feed_0 : decode cL_feed 0 = .ok (.iconst 0, 1) := by decide +kernel
theorem dL_feed_1 : decode cL_feed 1 = .ok (.istore_n 2, 1) := by decide +kernel
theorem dL_feed_2 : decode cL_feed 2 = .ok (.iconst 0, 1) := by decide +kernel
theorem dL_feed_3 : decode cL_feed 3 = .ok (.istore_n 3, 1) := by decide +kernel
theorem dL_feed_4 : decode cL_feed 4 = .ok (.iload_n 3, 1) := by decide +kernel
theorem dL_feed_5 : decode cL_feed 5 = .ok (.aload_n 1, 1) := by decide +kernel
theorem dL_feed_6 : decode cL_feed 6 = .ok (.invokevirtual 8, 3) := by decide +kernel
theorem dL_feed_9 : decode cL_feed 9 = .ok (.if_icmp .lt 7, 3) := by decide +kernel
theorem dL_feed_12 : decode cL_feed 12 = .ok (.iload_n 3, 1) := by decide +kernel
theorem dL_feed_13 : decode cL_feed 13 = .ok (.ifCond .ne 50, 3) := by decide +kernel
theorem dL_feed_16 : decode cL_feed 16 = .ok (.aload_n 0, 1) := by decide +kernel
theorem dL_feed_17 : decode cL_feed 17 = .ok (.aload_n 1, 1) := by decide +kernel
theorem dL_feed_18 : decode cL_feed 18 = .ok (.iload_n 3, 1) := by decide +kernel
theorem dL_feed_19 : decode cL_feed 19 = .ok (.invokestatic 18, 3) := by decide +kernel
theorem dL_feed_22 : decode cL_feed 22 = .ok (.aload_n 1, 1) := by decide +kernel
theorem dL_feed_23 : decode cL_feed 23 = .ok (.iload_n 3, 1) := by decide +kernel
theorem dL_feed_24 : decode cL_feed 24 = .ok (.iconst 4, 1) := by decide +kernel
theorem dL_feed_25 : decode cL_feed 25 = .ok (.iadd, 1) := by decide +kernel
theorem dL_feed_26 : decode cL_feed 26 = .ok (.invokestatic 18, 3) := by decide +kernel
theorem dL_feed_29 : decode cL_feed 29 = .ok (.aload_n 1, 1) := by decide +kernel
theorem dL_feed_30 : decode cL_feed 30 = .ok (.iload_n 3, 1) := by decide +kernel
theorem dL_feed_31 : decode cL_feed 31 = .ok (.bipush 8, 2) := by decide +kernel
theorem dL_feed_33 : decode cL_feed 33 = .ok (.iadd, 1) := by decide +kernel
theorem dL_feed_34 : decode cL_feed 34 = .ok (.invokestatic 18, 3) := by decide +kernel
theorem dL_feed_37 : decode cL_feed 37 = .ok (.aload_n 1, 1) := by decide +kernel
theorem dL_feed_38 : decode cL_feed 38 = .ok (.iload_n 3, 1) := by decide +kernel
theorem dL_feed_39 : decode cL_feed 39 = .ok (.bipush 12, 2) := by decide +kernel
theorem dL_feed_41 : decode cL_feed 41 = .ok (.iadd, 1) := by decide +kernel
theorem dL_feed_42 : decode cL_feed 42 = .ok (.invokestatic 18, 3) := by decide +kernel
theorem dL_feed_45 : decode cL_feed 45 = .ok (.aload_n 1, 1) := by decide +kernel
theorem dL_feed_46 : decode cL_feed 46 = .ok (.iload_n 3, 1) := by decide +kernel
theorem dL_feed_47 : decode cL_feed 47 = .ok (.bipush 16, 2) := by decide +kernel
theorem dL_feed_49 : decode cL_feed 49 = .ok (.iadd, 1) := by decide +kernel
theorem dL_feed_50 : decode cL_feed 50 = .ok (.invokestatic 18, 3) := by decide +kernel
theorem dL_feed_53 : decode cL_feed 53 = .ok (.invokevirtual 24, 3) := by decide +kernel
theorem dL_feed_56 : decode cL_feed 56 = .ok (.istore_n 2, 1) := by decide +kernel
theorem dL_feed_57 : decode cL_feed 57 = .ok (.iinc 3 20, 3) := by decide +kernel
theorem dL_feed_60 : decode cL_feed 60 = .ok (.goto (-56), 3) := by decide +kernel
theorem dL_feed_63 : decode cL_feed 63 = .ok (.aload_n 0, 1) := by decide +kernel
theorem dL_feed_64 : decode cL_feed 64 = .ok (.iload_n 2, 1) := by decide +kernel
theorem dL_feed_65 : decode cL_feed 65 = .ok (.aload_n 1, 1) := by decide +kernel
theorem dL_feed_66 : decode cL_feed 66 = .ok (.invokevirtual 8, 3) := by decide +kernel
theorem dL_feed_69 : decode cL_feed 69 = .ok (.invokestatic 30, 3) := by decide +kernel
theorem dL_feed_72 : decode cL_feed 72 = .ok (.invokevirtual 36, 3) := by decide +kernel
theorem dL_feed_75 : decode cL_feed 75 = .ok (.pop, 1) := by decide +kernel
theorem dL_feed_76 : decode cL_feed 76 = .ok (.return_, 1) := by decide +kernel
theorem dL_yields_0 : decode cL_yields 0 = .ok (.iconst 1, 1) := by decide +kernel
theorem dL_yields_1 : decode cL_yields 1 = .ok (.aload_n 0, 1) := by decide +kernel
theorem dL_yields_2 : decode cL_yields 2 = .ok (.iconst 0, 1) := by decide +kernel
theorem dL_yields_3 : decode cL_yields 3 = .ok (.bipush 60, 2) := by decide +kernel
theorem dL_yields_5 : decode cL_yields 5 = .ok (.invokestatic 40, 3) := by decide +kernel
theorem dL_yields_8 : decode cL_yields 8 = .ok (.iadd, 1) := by decide +kernel
theorem dL_yields_9 : decode cL_yields 9 = .ok (.ireturn, 1) := by decide +kernel
theorem dL_money_0 : decode cL_money 0 = .ok (.aload_n 0, 1) := by decide +kernel
theorem dL_money_1 : decode cL_money 1 = .ok (.iconst 1, 1) := by decide +kernel
theorem dL_money_2 : decode cL_money 2 = .ok (.sipush 30000, 3) := by decide +kernel
theorem dL_money_5 : decode cL_money 5 = .ok (.invokestatic 40, 3) := by decide +kernel
theorem dL_money_8 : decode cL_money 8 = .ok (.ireturn, 1) := by decide +kernel
theorem dL_grades_0 : decode cL_grades 0 = .ok (.iconst 1, 1) := by decide +kernel
theorem dL_grades_1 : decode cL_grades 1 = .ok (.aload_n 0, 1) := by decide +kernel
theorem dL_grades_2 : decode cL_grades 2 = .ok (.iconst 2, 1) := by decide +kernel
theorem dL_grades_3 : decode cL_grades 3 = .ok (.iconst 4, 1) := by decide +kernel
theorem dL_grades_4 : decode cL_grades 4 = .ok (.invokestatic 40, 3) := by decide +kernel
theorem dL_grades_7 : decode cL_grades 7 = .ok (.iadd, 1) := by decide +kernel
theorem dL_grades_8 : decode cL_grades 8 = .ok (.ireturn, 1) := by decide +kernel
theorem dL_lowest_0 : decode cL_lowest 0 = .ok (.sipush 140, 3) := by decide +kernel
theorem dL_lowest_3 : decode cL_lowest 3 = .ok (.bipush 35, 2) := by decide +kernel
theorem dL_lowest_5 : decode cL_lowest 5 = .ok (.iload_n 1, 1) := by decide +kernel
theorem dL_lowest_6 : decode cL_lowest 6 = .ok (.imul, 1) := by decide +kernel
theorem dL_lowest_7 : decode cL_lowest 7 = .ok (.isub, 1) := by decide +kernel
theorem dL_lowest_8 : decode cL_lowest 8 = .ok (.aload_n 0, 1) := by decide +kernel
theorem dL_lowest_9 : decode cL_lowest 9 = .ok (.bipush 6, 2) := by decide +kernel
theorem dL_lowest_11 : decode cL_lowest 11 = .ok (.iload_n 1, 1) := by decide +kernel
theorem dL_lowest_12 : decode cL_lowest 12 = .ok (.iadd, 1) := by decide +kernel
theorem dL_lowest_13 : decode cL_lowest 13 = .ok (.bipush 30, 2) := by decide +kernel
theorem dL_lowest_15 : decode cL_lowest 15 = .ok (.invokestatic 40, 3) := by decide +kernel
theorem dL_lowest_18 : decode cL_lowest 18 = .ok (.isub, 1) := by decide +kernel
theorem dL_lowest_19 : decode cL_lowest 19 = .ok (.ireturn, 1) := by decide +kernel
theorem dL_wines_0 : decode cL_wines 0 = .ok (.aload_n 0, 1) := by decide +kernel
theorem dL_wines_1 : decode cL_wines 1 = .ok (.iconst 3, 1) := by decide +kernel
theorem dL_wines_2 : decode cL_wines 2 = .ok (.iconst 4, 1) := by decide +kernel
theorem dL_wines_3 : decode cL_wines 3 = .ok (.invokestatic 40, 3) := by decide +kernel
theorem dL_wines_6 : decode cL_wines 6 = .ok (.ireturn, 1) := by decide +kernel
theorem dL_growers_0 : decode cL_growers 0 = .ok (.aload_n 0, 1) := by decide +kernel
theorem dL_growers_1 : decode cL_growers 1 = .ok (.iconst 4, 1) := by decide +kernel
theorem dL_growers_2 : decode cL_growers 2 = .ok (.iconst 5, 1) := by decide +kernel
theorem dL_growers_3 : decode cL_growers 3 = .ok (.invokestatic 40, 3) := by decide +kernel
theorem dL_growers_6 : decode cL_growers 6 = .ok (.ireturn, 1) := by decide +kernel
theorem dL_plots_0 : decode cL_plots 0 = .ok (.aload_n 0, 1) := by decide +kernel
theorem dL_plots_1 : decode cL_plots 1 = .ok (.invokestatic 44, 3) := by decide +kernel
theorem dL_plots_4 : decode cL_plots 4 = .ok (.ifCond .eq 10, 3) := by decide +kernel
theorem dL_plots_7 : decode cL_plots 7 = .ok (.aload_n 0, 1) := by decide +kernel
theorem dL_plots_8 : decode cL_plots 8 = .ok (.invokestatic 48, 3) := by decide +kernel
theorem dL_plots_11 : decode cL_plots 11 = .ok (.ifCond .ne 7, 3) := by decide +kernel
theorem dL_plots_14 : decode cL_plots 14 = .ok (.iconst 0, 1) := by decide +kernel
theorem dL_plots_15 : decode cL_plots 15 = .ok (.goto 10, 3) := by decide +kernel
theorem dL_plots_18 : decode cL_plots 18 = .ok (.aload_n 0, 1) := by decide +kernel
theorem dL_plots_19 : decode cL_plots 19 = .ok (.iconst 5, 1) := by decide +kernel
theorem dL_plots_20 : decode cL_plots 20 = .ok (.bipush 6, 2) := by decide +kernel
theorem dL_plots_22 : decode cL_plots 22 = .ok (.invokestatic 40, 3) := by decide +kernel
theorem dL_plots_25 : decode cL_plots 25 = .ok (.ireturn, 1) := by decide +kernel
theorem dL_cents_0 : decode cL_cents 0 = .ok (.aload_n 0, 1) := by decide +kernel
theorem dL_cents_1 : decode cL_cents 1 = .ok (.bipush 10, 2) := by decide +kernel
theorem dL_cents_3 : decode cL_cents 3 = .ok (.iconst 4, 1) := by decide +kernel
theorem dL_cents_4 : decode cL_cents 4 = .ok (.iload_n 1, 1) := by decide +kernel
theorem dL_cents_5 : decode cL_cents 5 = .ok (.imul, 1) := by decide +kernel
theorem dL_cents_6 : decode cL_cents 6 = .ok (.iadd, 1) := by decide +kernel
theorem dL_cents_7 : decode cL_cents 7 = .ok (.iload_n 2, 1) := by decide +kernel
theorem dL_cents_8 : decode cL_cents 8 = .ok (.iadd, 1) := by decide +kernel
theorem dL_cents_9 : decode cL_cents 9 = .ok (.bipush 30, 2) := by decide +kernel
theorem dL_cents_11 : decode cL_cents 11 = .ok (.invokestatic 40, 3) := by decide +kernel
theorem dL_cents_14 : decode cL_cents 14 = .ok (.ireturn, 1) := by decide +kernel
theorem dL_owner_0 : decode cL_owner 0 = .ok (.aload_n 0, 1) := by decide +kernel
theorem dL_owner_1 : decode cL_owner 1 = .ok (.bipush 24, 2) := by decide +kernel
theorem dL_owner_3 : decode cL_owner 3 = .ok (.iconst 3, 1) := by decide +kernel
theorem dL_owner_4 : decode cL_owner 4 = .ok (.iload_n 1, 1) := by decide +kernel
theorem dL_owner_5 : decode cL_owner 5 = .ok (.imul, 1) := by decide +kernel
theorem dL_owner_6 : decode cL_owner 6 = .ok (.iadd, 1) := by decide +kernel
theorem dL_owner_7 : decode cL_owner 7 = .ok (.aload_n 0, 1) := by decide +kernel
theorem dL_owner_8 : decode cL_owner 8 = .ok (.invokestatic 48, 3) := by decide +kernel
theorem dL_owner_11 : decode cL_owner 11 = .ok (.invokestatic 40, 3) := by decide +kernel
theorem dL_owner_14 : decode cL_owner 14 = .ok (.ireturn, 1) := by decide +kernel
theorem dL_wine_0 : decode cL_wine 0 = .ok (.aload_n 0, 1) := by decide +kernel
theorem dL_wine_1 : decode cL_wine 1 = .ok (.bipush 25, 2) := by decide +kernel
theorem dL_wine_3 : decode cL_wine 3 = .ok (.iconst 3, 1) := by decide +kernel
theorem dL_wine_4 : decode cL_wine 4 = .ok (.iload_n 1, 1) := by decide +kernel
theorem dL_wine_5 : decode cL_wine 5 = .ok (.imul, 1) := by decide +kernel
theorem dL_wine_6 : decode cL_wine 6 = .ok (.iadd, 1) := by decide +kernel
theorem dL_wine_7 : decode cL_wine 7 = .ok (.aload_n 0, 1) := by decide +kernel
theorem dL_wine_8 : decode cL_wine 8 = .ok (.invokestatic 44, 3) := by decide +kernel
theorem dL_wine_11 : decode cL_wine 11 = .ok (.invokestatic 40, 3) := by decide +kernel
theorem dL_wine_14 : decode cL_wine 14 = .ok (.ireturn, 1) := by decide +kernel
theorem dL_area_0 : decode cL_area 0 = .ok (.iconst 1, 1) := by decide +kernel
theorem dL_area_1 : decode cL_area 1 = .ok (.aload_n 0, 1) := by decide +kernel
theorem dL_area_2 : decode cL_area 2 = .ok (.bipush 26, 2) := by decide +kernel
theorem dL_area_4 : decode cL_area 4 = .ok (.iconst 3, 1) := by decide +kernel
theorem dL_area_5 : decode cL_area 5 = .ok (.iload_n 1, 1) := by decide +kernel
theorem dL_area_6 : decode cL_area 6 = .ok (.imul, 1) := by decide +kernel
theorem dL_area_7 : decode cL_area 7 = .ok (.iadd, 1) := by decide +kernel
theorem dL_area_8 : decode cL_area 8 = .ok (.bipush 40, 2) := by decide +kernel
theorem dL_area_10 : decode cL_area 10 = .ok (.invokestatic 40, 3) := by decide +kernel
theorem dL_area_13 : decode cL_area 13 = .ok (.iadd, 1) := by decide +kernel
theorem dL_area_14 : decode cL_area 14 = .ok (.ireturn, 1) := by decide +kernel
theorem dL_tanks_0 : decode cL_tanks 0 = .ok (.aload_n 0, 1) := by decide +kernel
theorem dL_tanks_1 : decode cL_tanks 1 = .ok (.bipush 42, 2) := by decide +kernel
theorem dL_tanks_3 : decode cL_tanks 3 = .ok (.bipush 6, 2) := by decide +kernel
theorem dL_tanks_5 : decode cL_tanks 5 = .ok (.invokestatic 40, 3) := by decide +kernel
theorem dL_tanks_8 : decode cL_tanks 8 = .ok (.ireturn, 1) := by decide +kernel
theorem dL_capacity_0 : decode cL_capacity 0 = .ok (.iconst 1, 1) := by decide +kernel
theorem dL_capacity_1 : decode cL_capacity 1 = .ok (.aload_n 0, 1) := by decide +kernel
theorem dL_capacity_2 : decode cL_capacity 2 = .ok (.bipush 43, 2) := by decide +kernel
theorem dL_capacity_4 : decode cL_capacity 4 = .ok (.iload_n 1, 1) := by decide +kernel
theorem dL_capacity_5 : decode cL_capacity 5 = .ok (.iadd, 1) := by decide +kernel
theorem dL_capacity_6 : decode cL_capacity 6 = .ok (.sipush 3000, 3) := by decide +kernel
theorem dL_capacity_9 : decode cL_capacity 9 = .ok (.invokestatic 40, 3) := by decide +kernel
theorem dL_capacity_12 : decode cL_capacity 12 = .ok (.iadd, 1) := by decide +kernel
theorem dL_capacity_13 : decode cL_capacity 13 = .ok (.ireturn, 1) := by decide +kernel
theorem dL_grade_0 : decode cL_grade 0 = .ok (.iconst 0, 1) := by decide +kernel
theorem dL_grade_1 : decode cL_grade 1 = .ok (.istore_n 2, 1) := by decide +kernel
theorem dL_grade_2 : decode cL_grade 2 = .ok (.iload_n 2, 1) := by decide +kernel
theorem dL_grade_3 : decode cL_grade 3 = .ok (.aload_n 0, 1) := by decide +kernel
theorem dL_grade_4 : decode cL_grade 4 = .ok (.invokestatic 51, 3) := by decide +kernel
theorem dL_grade_7 : decode cL_grade 7 = .ok (.if_icmp .ge 20, 3) := by decide +kernel
theorem dL_grade_10 : decode cL_grade 10 = .ok (.aload_n 0, 1) := by decide +kernel
theorem dL_grade_11 : decode cL_grade 11 = .ok (.iload_n 2, 1) := by decide +kernel
theorem dL_grade_12 : decode cL_grade 12 = .ok (.invokestatic 54, 3) := by decide +kernel
theorem dL_grade_15 : decode cL_grade 15 = .ok (.iload_n 1, 1) := by decide +kernel
theorem dL_grade_16 : decode cL_grade 16 = .ok (.if_icmp .gt 5, 3) := by decide +kernel
theorem dL_grade_19 : decode cL_grade 19 = .ok (.iload_n 2, 1) := by decide +kernel
theorem dL_grade_20 : decode cL_grade 20 = .ok (.ireturn, 1) := by decide +kernel
theorem dL_grade_21 : decode cL_grade 21 = .ok (.iinc 2 1, 3) := by decide +kernel
theorem dL_grade_24 : decode cL_grade 24 = .ok (.goto (-22), 3) := by decide +kernel
theorem dL_grade_27 : decode cL_grade 27 = .ok (.iconst (-1), 1) := by decide +kernel
theorem dL_grade_28 : decode cL_grade 28 = .ok (.ireturn, 1) := by decide +kernel
theorem dL_load_0 : decode cL_load 0 = .ok (.new 58, 3) := by decide +kernel
theorem dL_load_3 : decode cL_load 3 = .ok (.dup, 1) := by decide +kernel
theorem dL_load_4 : decode cL_load 4 = .ok (.new 58, 3) := by decide +kernel
theorem dL_load_7 : decode cL_load 7 = .ok (.dup, 1) := by decide +kernel
theorem dL_load_8 : decode cL_load 8 = .ok (.invokespecial 60, 3) := by decide +kernel
theorem dL_load_11 : decode cL_load 11 = .ok (.ldc 61, 2) := by decide +kernel
theorem dL_load_13 : decode cL_load 13 = .ok (.invokevirtual 63, 3) := by decide +kernel
theorem dL_load_16 : decode cL_load 16 = .ok (.aload_n 1, 1) := by decide +kernel
theorem dL_load_17 : decode cL_load 17 = .ok (.invokestatic 66, 3) := by decide +kernel
theorem dL_load_20 : decode cL_load 20 = .ok (.invokevirtual 69, 3) := by decide +kernel
theorem dL_load_23 : decode cL_load 23 = .ok (.ldc 72, 2) := by decide +kernel
theorem dL_load_25 : decode cL_load 25 = .ok (.invokevirtual 63, 3) := by decide +kernel
theorem dL_load_28 : decode cL_load 28 = .ok (.aload_n 1, 1) := by decide +kernel
theorem dL_load_29 : decode cL_load 29 = .ok (.invokestatic 74, 3) := by decide +kernel
theorem dL_load_32 : decode cL_load 32 = .ok (.invokevirtual 69, 3) := by decide +kernel
theorem dL_load_35 : decode cL_load 35 = .ok (.ldc 77, 2) := by decide +kernel
theorem dL_load_37 : decode cL_load 37 = .ok (.invokevirtual 63, 3) := by decide +kernel
theorem dL_load_40 : decode cL_load 40 = .ok (.invokevirtual 79, 3) := by decide +kernel
theorem dL_load_43 : decode cL_load 43 = .ok (.invokespecial 83, 3) := by decide +kernel
theorem dL_load_46 : decode cL_load 46 = .ok (.astore_n 2, 1) := by decide +kernel
theorem dL_load_47 : decode cL_load 47 = .ok (.iconst 0, 1) := by decide +kernel
theorem dL_load_48 : decode cL_load 48 = .ok (.istore_n 3, 1) := by decide +kernel
theorem dL_load_49 : decode cL_load 49 = .ok (.iload_n 3, 1) := by decide +kernel
theorem dL_load_50 : decode cL_load 50 = .ok (.aload_n 1, 1) := by decide +kernel
theorem dL_load_51 : decode cL_load 51 = .ok (.invokestatic 51, 3) := by decide +kernel
theorem dL_load_54 : decode cL_load 54 = .ok (.if_icmp .ge 24, 3) := by decide +kernel
theorem dL_load_57 : decode cL_load 57 = .ok (.aload_n 2, 1) := by decide +kernel
theorem dL_load_58 : decode cL_load 58 = .ok (.ldc 72, 2) := by decide +kernel
theorem dL_load_60 : decode cL_load 60 = .ok (.invokevirtual 63, 3) := by decide +kernel
theorem dL_load_63 : decode cL_load 63 = .ok (.aload_n 1, 1) := by decide +kernel
theorem dL_load_64 : decode cL_load 64 = .ok (.iload_n 3, 1) := by decide +kernel
theorem dL_load_65 : decode cL_load 65 = .ok (.invokestatic 54, 3) := by decide +kernel
theorem dL_load_68 : decode cL_load 68 = .ok (.invokevirtual 69, 3) := by decide +kernel
theorem dL_load_71 : decode cL_load 71 = .ok (.pop, 1) := by decide +kernel
theorem dL_load_72 : decode cL_load 72 = .ok (.iinc 3 1, 3) := by decide +kernel
theorem dL_load_75 : decode cL_load 75 = .ok (.goto (-26), 3) := by decide +kernel
theorem dL_load_78 : decode cL_load 78 = .ok (.aload_n 2, 1) := by decide +kernel
theorem dL_load_79 : decode cL_load 79 = .ok (.ldc 86, 2) := by decide +kernel
theorem dL_load_81 : decode cL_load 81 = .ok (.invokevirtual 63, 3) := by decide +kernel
theorem dL_load_84 : decode cL_load 84 = .ok (.pop, 1) := by decide +kernel
theorem dL_load_85 : decode cL_load 85 = .ok (.iconst 0, 1) := by decide +kernel
theorem dL_load_86 : decode cL_load 86 = .ok (.istore_n 3, 1) := by decide +kernel
theorem dL_load_87 : decode cL_load 87 = .ok (.iload_n 3, 1) := by decide +kernel
theorem dL_load_88 : decode cL_load 88 = .ok (.aload_n 1, 1) := by decide +kernel
theorem dL_load_89 : decode cL_load 89 = .ok (.invokestatic 44, 3) := by decide +kernel
theorem dL_load_92 : decode cL_load 92 = .ok (.if_icmp .ge 29, 3) := by decide +kernel
theorem dL_load_95 : decode cL_load 95 = .ok (.aload_n 2, 1) := by decide +kernel
theorem dL_load_96 : decode cL_load 96 = .ok (.ldc 88, 2) := by decide +kernel
theorem dL_load_98 : decode cL_load 98 = .ok (.invokevirtual 63, 3) := by decide +kernel
theorem dL_load_101 : decode cL_load 101 = .ok (.getstatic 90, 3) := by decide +kernel
theorem dL_load_104 : decode cL_load 104 = .ok (.iload_n 3, 1) := by decide +kernel
theorem dL_load_105 : decode cL_load 105 = .ok (.aaload, 1) := by decide +kernel
theorem dL_load_106 : decode cL_load 106 = .ok (.invokevirtual 63, 3) := by decide +kernel
theorem dL_load_109 : decode cL_load 109 = .ok (.ldc 86, 2) := by decide +kernel
theorem dL_load_111 : decode cL_load 111 = .ok (.invokevirtual 63, 3) := by decide +kernel
theorem dL_load_114 : decode cL_load 114 = .ok (.pop, 1) := by decide +kernel
theorem dL_load_115 : decode cL_load 115 = .ok (.iinc 3 1, 3) := by decide +kernel
theorem dL_load_118 : decode cL_load 118 = .ok (.goto (-31), 3) := by decide +kernel
theorem dL_load_121 : decode cL_load 121 = .ok (.iconst 0, 1) := by decide +kernel
theorem dL_load_122 : decode cL_load 122 = .ok (.istore_n 3, 1) := by decide +kernel
theorem dL_load_123 : decode cL_load 123 = .ok (.iload_n 3, 1) := by decide +kernel
theorem dL_load_124 : decode cL_load 124 = .ok (.aload_n 1, 1) := by decide +kernel
theorem dL_load_125 : decode cL_load 125 = .ok (.invokestatic 44, 3) := by decide +kernel
theorem dL_load_128 : decode cL_load 128 = .ok (.if_icmp .ge 72, 3) := by decide +kernel
theorem dL_load_131 : decode cL_load 131 = .ok (.iconst 0, 1) := by decide +kernel
theorem dL_load_132 : decode cL_load 132 = .ok (.istore 4, 2) := by decide +kernel
theorem dL_load_134 : decode cL_load 134 = .ok (.iload 4, 2) := by decide +kernel
theorem dL_load_136 : decode cL_load 136 = .ok (.aload_n 1, 1) := by decide +kernel
theorem dL_load_137 : decode cL_load 137 = .ok (.invokestatic 51, 3) := by decide +kernel
theorem dL_load_140 : decode cL_load 140 = .ok (.if_icmp .ge 54, 3) := by decide +kernel
theorem dL_load_143 : decode cL_load 143 = .ok (.aload_n 2, 1) := by decide +kernel
theorem dL_load_144 : decode cL_load 144 = .ok (.ldc 94, 2) := by decide +kernel
theorem dL_load_146 : decode cL_load 146 = .ok (.invokevirtual 63, 3) := by decide +kernel
theorem dL_load_149 : decode cL_load 149 = .ok (.getstatic 90, 3) := by decide +kernel
theorem dL_load_152 : decode cL_load 152 = .ok (.iload_n 3, 1) := by decide +kernel
theorem dL_load_153 : decode cL_load 153 = .ok (.aaload, 1) := by decide +kernel
theorem dL_load_154 : decode cL_load 154 = .ok (.invokevirtual 63, 3) := by decide +kernel
theorem dL_load_157 : decode cL_load 157 = .ok (.ldc 72, 2) := by decide +kernel
theorem dL_load_159 : decode cL_load 159 = .ok (.invokevirtual 63, 3) := by decide +kernel
theorem dL_load_162 : decode cL_load 162 = .ok (.iload 4, 2) := by decide +kernel
theorem dL_load_164 : decode cL_load 164 = .ok (.invokevirtual 69, 3) := by decide +kernel
theorem dL_load_167 : decode cL_load 167 = .ok (.ldc 72, 2) := by decide +kernel
theorem dL_load_169 : decode cL_load 169 = .ok (.invokevirtual 63, 3) := by decide +kernel
theorem dL_load_172 : decode cL_load 172 = .ok (.aload_n 1, 1) := by decide +kernel
theorem dL_load_173 : decode cL_load 173 = .ok (.iload_n 3, 1) := by decide +kernel
theorem dL_load_174 : decode cL_load 174 = .ok (.iload 4, 2) := by decide +kernel
theorem dL_load_176 : decode cL_load 176 = .ok (.invokestatic 96, 3) := by decide +kernel
theorem dL_load_179 : decode cL_load 179 = .ok (.invokevirtual 69, 3) := by decide +kernel
theorem dL_load_182 : decode cL_load 182 = .ok (.ldc 86, 2) := by decide +kernel
theorem dL_load_184 : decode cL_load 184 = .ok (.invokevirtual 63, 3) := by decide +kernel
theorem dL_load_187 : decode cL_load 187 = .ok (.pop, 1) := by decide +kernel
theorem dL_load_188 : decode cL_load 188 = .ok (.iinc 4 1, 3) := by decide +kernel
theorem dL_load_191 : decode cL_load 191 = .ok (.goto (-57), 3) := by decide +kernel
theorem dL_load_194 : decode cL_load 194 = .ok (.iinc 3 1, 3) := by decide +kernel
theorem dL_load_197 : decode cL_load 197 = .ok (.goto (-74), 3) := by decide +kernel
theorem dL_load_200 : decode cL_load 200 = .ok (.iconst 0, 1) := by decide +kernel
theorem dL_load_201 : decode cL_load 201 = .ok (.istore_n 3, 1) := by decide +kernel
theorem dL_load_202 : decode cL_load 202 = .ok (.iload_n 3, 1) := by decide +kernel
theorem dL_load_203 : decode cL_load 203 = .ok (.aload_n 1, 1) := by decide +kernel
theorem dL_load_204 : decode cL_load 204 = .ok (.invokestatic 48, 3) := by decide +kernel
theorem dL_load_207 : decode cL_load 207 = .ok (.if_icmp .ge 29, 3) := by decide +kernel
theorem dL_load_210 : decode cL_load 210 = .ok (.aload_n 2, 1) := by decide +kernel
theorem dL_load_211 : decode cL_load 211 = .ok (.ldc 99, 2) := by decide +kernel
theorem dL_load_213 : decode cL_load 213 = .ok (.invokevirtual 63, 3) := by decide +kernel
theorem dL_load_216 : decode cL_load 216 = .ok (.getstatic 101, 3) := by decide +kernel
theorem dL_load_219 : decode cL_load 219 = .ok (.iload_n 3, 1) := by decide +kernel
theorem dL_load_220 : decode cL_load 220 = .ok (.aaload, 1) := by decide +kernel
theorem dL_load_221 : decode cL_load 221 = .ok (.invokevirtual 63, 3) := by decide +kernel
theorem dL_load_224 : decode cL_load 224 = .ok (.ldc 86, 2) := by decide +kernel
theorem dL_load_226 : decode cL_load 226 = .ok (.invokevirtual 63, 3) := by decide +kernel
theorem dL_load_229 : decode cL_load 229 = .ok (.pop, 1) := by decide +kernel
theorem dL_load_230 : decode cL_load 230 = .ok (.iinc 3 1, 3) := by decide +kernel
theorem dL_load_233 : decode cL_load 233 = .ok (.goto (-31), 3) := by decide +kernel
theorem dL_load_236 : decode cL_load 236 = .ok (.iconst 0, 1) := by decide +kernel
theorem dL_load_237 : decode cL_load 237 = .ok (.istore_n 3, 1) := by decide +kernel
theorem dL_load_238 : decode cL_load 238 = .ok (.iload_n 3, 1) := by decide +kernel
theorem dL_load_239 : decode cL_load 239 = .ok (.aload_n 1, 1) := by decide +kernel
theorem dL_load_240 : decode cL_load 240 = .ok (.invokestatic 104, 3) := by decide +kernel
theorem dL_load_243 : decode cL_load 243 = .ok (.if_icmp .ge 63, 3) := by decide +kernel
theorem dL_load_246 : decode cL_load 246 = .ok (.aload_n 2, 1) := by decide +kernel
theorem dL_load_247 : decode cL_load 247 = .ok (.ldc 107, 2) := by decide +kernel
theorem dL_load_249 : decode cL_load 249 = .ok (.invokevirtual 63, 3) := by decide +kernel
theorem dL_load_252 : decode cL_load 252 = .ok (.getstatic 101, 3) := by decide +kernel
theorem dL_load_255 : decode cL_load 255 = .ok (.aload_n 1, 1) := by decide +kernel
theorem dL_load_256 : decode cL_load 256 = .ok (.iload_n 3, 1) := by decide +kernel
theorem dL_load_257 : decode cL_load 257 = .ok (.invokestatic 109, 3) := by decide +kernel
theorem dL_load_260 : decode cL_load 260 = .ok (.aaload, 1) := by decide +kernel
theorem dL_load_261 : decode cL_load 261 = .ok (.invokevirtual 63, 3) := by decide +kernel
theorem dL_load_264 : decode cL_load 264 = .ok (.ldc 72, 2) := by decide +kernel
theorem dL_load_266 : decode cL_load 266 = .ok (.invokevirtual 63, 3) := by decide +kernel
theorem dL_load_269 : decode cL_load 269 = .ok (.getstatic 90, 3) := by decide +kernel
theorem dL_load_272 : decode cL_load 272 = .ok (.aload_n 1, 1) := by decide +kernel
theorem dL_load_273 : decode cL_load 273 = .ok (.iload_n 3, 1) := by decide +kernel
theorem dL_load_274 : decode cL_load 274 = .ok (.invokestatic 112, 3) := by decide +kernel
theorem dL_load_277 : decode cL_load 277 = .ok (.aaload, 1) := by decide +kernel
theorem dL_load_278 : decode cL_load 278 = .ok (.invokevirtual 63, 3) := by decide +kernel
theorem dL_load_281 : decode cL_load 281 = .ok (.ldc 72, 2) := by decide +kernel
theorem dL_load_283 : decode cL_load 283 = .ok (.invokevirtual 63, 3) := by decide +kernel
theorem dL_load_286 : decode cL_load 286 = .ok (.aload_n 1, 1) := by decide +kernel
theorem dL_load_287 : decode cL_load 287 = .ok (.iload_n 3, 1) := by decide +kernel
theorem dL_load_288 : decode cL_load 288 = .ok (.invokestatic 115, 3) := by decide +kernel
theorem dL_load_291 : decode cL_load 291 = .ok (.invokevirtual 69, 3) := by decide +kernel
theorem dL_load_294 : decode cL_load 294 = .ok (.ldc 86, 2) := by decide +kernel
theorem dL_load_296 : decode cL_load 296 = .ok (.invokevirtual 63, 3) := by decide +kernel
theorem dL_load_299 : decode cL_load 299 = .ok (.pop, 1) := by decide +kernel
theorem dL_load_300 : decode cL_load 300 = .ok (.iinc 3 1, 3) := by decide +kernel
theorem dL_load_303 : decode cL_load 303 = .ok (.goto (-65), 3) := by decide +kernel
theorem dL_load_306 : decode cL_load 306 = .ok (.iconst 0, 1) := by decide +kernel
theorem dL_load_307 : decode cL_load 307 = .ok (.istore_n 3, 1) := by decide +kernel
theorem dL_load_308 : decode cL_load 308 = .ok (.iload_n 3, 1) := by decide +kernel
theorem dL_load_309 : decode cL_load 309 = .ok (.aload_n 1, 1) := by decide +kernel
theorem dL_load_310 : decode cL_load 310 = .ok (.invokestatic 118, 3) := by decide +kernel
theorem dL_load_313 : decode cL_load 313 = .ok (.if_icmp .ge 29, 3) := by decide +kernel
theorem dL_load_316 : decode cL_load 316 = .ok (.aload_n 2, 1) := by decide +kernel
theorem dL_load_317 : decode cL_load 317 = .ok (.ldc 121, 2) := by decide +kernel
theorem dL_load_319 : decode cL_load 319 = .ok (.invokevirtual 63, 3) := by decide +kernel
theorem dL_load_322 : decode cL_load 322 = .ok (.aload_n 1, 1) := by decide +kernel
theorem dL_load_323 : decode cL_load 323 = .ok (.iload_n 3, 1) := by decide +kernel
theorem dL_load_324 : decode cL_load 324 = .ok (.invokestatic 123, 3) := by decide +kernel
theorem dL_load_327 : decode cL_load 327 = .ok (.invokevirtual 69, 3) := by decide +kernel
theorem dL_load_330 : decode cL_load 330 = .ok (.ldc 86, 2) := by decide +kernel
theorem dL_load_332 : decode cL_load 332 = .ok (.invokevirtual 63, 3) := by decide +kernel
theorem dL_load_335 : decode cL_load 335 = .ok (.pop, 1) := by decide +kernel
theorem dL_load_336 : decode cL_load 336 = .ok (.iinc 3 1, 3) := by decide +kernel
theorem dL_load_339 : decode cL_load 339 = .ok (.goto (-31), 3) := by decide +kernel
theorem dL_load_342 : decode cL_load 342 = .ok (.aload_n 0, 1) := by decide +kernel
theorem dL_load_343 : decode cL_load 343 = .ok (.aload_n 2, 1) := by decide +kernel
theorem dL_load_344 : decode cL_load 344 = .ok (.invokevirtual 79, 3) := by decide +kernel
theorem dL_load_347 : decode cL_load 347 = .ok (.invokestatic 126, 3) := by decide +kernel
theorem dL_load_350 : decode cL_load 350 = .ok (.aload_n 0, 1) := by decide +kernel
theorem dL_load_351 : decode cL_load 351 = .ok (.invokevirtual 130, 3) := by decide +kernel
theorem dL_load_354 : decode cL_load 354 = .ok (.ifCond .ne 87, 3) := by decide +kernel
theorem dL_load_357 : decode cL_load 357 = .ok (.aload_n 0, 1) := by decide +kernel
theorem dL_load_358 : decode cL_load 358 = .ok (.invokevirtual 133, 3) := by decide +kernel
theorem dL_load_361 : decode cL_load 361 = .ok (.ifCond .ne 80, 3) := by decide +kernel
theorem dL_load_364 : decode cL_load 364 = .ok (.aload_n 0, 1) := by decide +kernel
theorem dL_load_365 : decode cL_load 365 = .ok (.invokevirtual 136, 3) := by decide +kernel
theorem dL_load_368 : decode cL_load 368 = .ok (.iconst (-1), 1) := by decide +kernel
theorem dL_load_369 : decode cL_load 369 = .ok (.if_icmp .ne 72, 3) := by decide +kernel
theorem dL_load_372 : decode cL_load 372 = .ok (.aload_n 0, 1) := by decide +kernel
theorem dL_load_373 : decode cL_load 373 = .ok (.invokevirtual 139, 3) := by decide +kernel
theorem dL_load_376 : decode cL_load 376 = .ok (.aload_n 1, 1) := by decide +kernel
theorem dL_load_377 : decode cL_load 377 = .ok (.invokestatic 44, 3) := by decide +kernel
theorem dL_load_380 : decode cL_load 380 = .ok (.if_icmp .ne 61, 3) := by decide +kernel
theorem dL_load_383 : decode cL_load 383 = .ok (.aload_n 0, 1) := by decide +kernel
theorem dL_load_384 : decode cL_load 384 = .ok (.invokevirtual 142, 3) := by decide +kernel
theorem dL_load_387 : decode cL_load 387 = .ok (.aload_n 1, 1) := by decide +kernel
theorem dL_load_388 : decode cL_load 388 = .ok (.invokestatic 51, 3) := by decide +kernel
theorem dL_load_391 : decode cL_load 391 = .ok (.if_icmp .ne 50, 3) := by decide +kernel
theorem dL_load_394 : decode cL_load 394 = .ok (.aload_n 0, 1) := by decide +kernel
theorem dL_load_395 : decode cL_load 395 = .ok (.invokevirtual 145, 3) := by decide +kernel
theorem dL_load_398 : decode cL_load 398 = .ok (.aload_n 1, 1) := by decide +kernel
theorem dL_load_399 : decode cL_load 399 = .ok (.invokestatic 48, 3) := by decide +kernel
theorem dL_load_402 : decode cL_load 402 = .ok (.if_icmp .ne 39, 3) := by decide +kernel
theorem dL_load_405 : decode cL_load 405 = .ok (.aload_n 0, 1) := by decide +kernel
theorem dL_load_406 : decode cL_load 406 = .ok (.invokevirtual 148, 3) := by decide +kernel
theorem dL_load_409 : decode cL_load 409 = .ok (.aload_n 1, 1) := by decide +kernel
theorem dL_load_410 : decode cL_load 410 = .ok (.invokestatic 104, 3) := by decide +kernel
theorem dL_load_413 : decode cL_load 413 = .ok (.if_icmp .ne 28, 3) := by decide +kernel
theorem dL_load_416 : decode cL_load 416 = .ok (.aload_n 0, 1) := by decide +kernel
theorem dL_load_417 : decode cL_load 417 = .ok (.invokevirtual 151, 3) := by decide +kernel
theorem dL_load_420 : decode cL_load 420 = .ok (.ifCond .ne 21, 3) := by decide +kernel
theorem dL_load_423 : decode cL_load 423 = .ok (.aload_n 0, 1) := by decide +kernel
theorem dL_load_424 : decode cL_load 424 = .ok (.invokevirtual 154, 3) := by decide +kernel
theorem dL_load_427 : decode cL_load 427 = .ok (.ifCond .ne 14, 3) := by decide +kernel
theorem dL_load_430 : decode cL_load 430 = .ok (.aload_n 0, 1) := by decide +kernel
theorem dL_load_431 : decode cL_load 431 = .ok (.invokevirtual 157, 3) := by decide +kernel
theorem dL_load_434 : decode cL_load 434 = .ok (.aload_n 1, 1) := by decide +kernel
theorem dL_load_435 : decode cL_load 435 = .ok (.invokestatic 74, 3) := by decide +kernel
theorem dL_load_438 : decode cL_load 438 = .ok (.if_icmp .eq 5, 3) := by decide +kernel
theorem dL_load_441 : decode cL_load 441 = .ok (.iconst 0, 1) := by decide +kernel
theorem dL_load_442 : decode cL_load 442 = .ok (.ireturn, 1) := by decide +kernel
theorem dL_load_443 : decode cL_load 443 = .ok (.iconst 0, 1) := by decide +kernel
theorem dL_load_444 : decode cL_load 444 = .ok (.istore_n 3, 1) := by decide +kernel
theorem dL_load_445 : decode cL_load 445 = .ok (.iload_n 3, 1) := by decide +kernel
theorem dL_load_446 : decode cL_load 446 = .ok (.aload_n 1, 1) := by decide +kernel
theorem dL_load_447 : decode cL_load 447 = .ok (.invokestatic 44, 3) := by decide +kernel
theorem dL_load_450 : decode cL_load 450 = .ok (.if_icmp .ge 46, 3) := by decide +kernel
theorem dL_load_453 : decode cL_load 453 = .ok (.iconst 0, 1) := by decide +kernel
theorem dL_load_454 : decode cL_load 454 = .ok (.istore 4, 2) := by decide +kernel
theorem dL_load_456 : decode cL_load 456 = .ok (.iload 4, 2) := by decide +kernel
theorem dL_load_458 : decode cL_load 458 = .ok (.aload_n 1, 1) := by decide +kernel
theorem dL_load_459 : decode cL_load 459 = .ok (.invokestatic 51, 3) := by decide +kernel
theorem dL_load_462 : decode cL_load 462 = .ok (.if_icmp .ge 28, 3) := by decide +kernel
theorem dL_load_465 : decode cL_load 465 = .ok (.aload_n 0, 1) := by decide +kernel
theorem dL_load_466 : decode cL_load 466 = .ok (.iload_n 3, 1) := by decide +kernel
theorem dL_load_467 : decode cL_load 467 = .ok (.iload 4, 2) := by decide +kernel
theorem dL_load_469 : decode cL_load 469 = .ok (.invokevirtual 160, 3) := by decide +kernel
theorem dL_load_472 : decode cL_load 472 = .ok (.aload_n 1, 1) := by decide +kernel
theorem dL_load_473 : decode cL_load 473 = .ok (.iload_n 3, 1) := by decide +kernel
theorem dL_load_474 : decode cL_load 474 = .ok (.iload 4, 2) := by decide +kernel
theorem dL_load_476 : decode cL_load 476 = .ok (.invokestatic 96, 3) := by decide +kernel
theorem dL_load_479 : decode cL_load 479 = .ok (.if_icmp .eq 5, 3) := by decide +kernel
