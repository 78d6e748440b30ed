theorem dL_cell_0 : decode cL_cell 0 = .ok (.iload_n 1, 1) := by decide +kernel
theorem dL_cell_1 : decode cL_cell 1 = .ok (.aload_n 0, 1) := by decide +kernel
theorem dL_cell_2 : decode cL_cell 2 = .ok (.arraylength, 1) := by decide +kernel
theorem dL_cell_3 : decode cL_cell 3 = .ok (.if_icmp .ge 9, 3) := by decide +kernel
theorem dL_cell_6 : decode cL_cell 6 = .ok (.aload_n 0, 1) := by decide +kernel
theorem dL_cell_7 : decode cL_cell 7 = .ok (.iload_n 1, 1) := by decide +kernel
theorem dL_cell_8 : decode cL_cell 8 = .ok (.iaload, 1) := by decide +kernel
theorem dL_cell_9 : decode cL_cell 9 = .ok (.goto 4, 3) := by decide +kernel
theorem dL_cell_12 : decode cL_cell 12 = .ok (.iconst 0, 1) := by decide +kernel
theorem dL_cell_13 : decode cL_cell 13 = .ok (.ireturn, 1) := by decide +kernel
theorem dL_tote_0 : decode cL_tote 0 = .ok (.aload_n 3, 1) := by decide +kernel
theorem dL_tote_1 : decode cL_tote 1 = .ok (.iconst 0, 1) := by decide +kernel
theorem dL_tote_2 : decode cL_tote 2 = .ok (.aload_n 0, 1) := by decide +kernel
theorem dL_tote_3 : decode cL_tote 3 = .ok (.iload_n 1, 1) := by decide +kernel
theorem dL_tote_4 : decode cL_tote 4 = .ok (.iload_n 2, 1) := by decide +kernel
theorem dL_tote_5 : decode cL_tote 5 = .ok (.invokevirtual 7, 3) := by decide +kernel
theorem dL_tote_8 : decode cL_tote 8 = .ok (.i2l, 1) := by decide +kernel
theorem dL_tote_9 : decode cL_tote 9 = .ok (.lastore, 1) := by decide +kernel
theorem dL_tote_10 : decode cL_tote 10 = .ok (.goto 7, 3) := by decide +kernel
theorem dL_tote_13 : decode cL_tote 13 = .ok (.astore 4, 2) := by decide +kernel
theorem dL_tote_15 : decode cL_tote 15 = .ok (.iconst 1, 1) := by decide +kernel
theorem dL_tote_16 : decode cL_tote 16 = .ok (.ireturn, 1) := by decide +kernel
theorem dL_tote_17 : decode cL_tote 17 = .ok (.iconst 0, 1) := by decide +kernel
theorem dL_tote_18 : decode cL_tote 18 = .ok (.ireturn, 1) := by decide +kernel
theorem dL_order_0 : decode cL_order 0 = .ok (.aload_n 1, 1) := by decide +kernel
theorem dL_order_1 : decode cL_order 1 = .ok (.iconst 0, 1) := by decide +kernel
theorem dL_order_2 : decode cL_order 2 = .ok (.aload_n 0, 1) := by decide +kernel
theorem dL_order_3 : decode cL_order 3 = .ok (.invokevirtual 15, 3) := by decide +kernel
theorem dL_order_6 : decode cL_order 6 = .ok (.i2l, 1) := by decide +kernel
theorem dL_order_7 : decode cL_order 7 = .ok (.lastore, 1) := by decide +kernel
theorem dL_order_8 : decode cL_order 8 = .ok (.goto 6, 3) := by decide +kernel
theorem dL_order_11 : decode cL_order 11 = .ok (.astore_n 2, 1) := by decide +kernel
theorem dL_order_12 : decode cL_order 12 = .ok (.iconst 1, 1) := by decide +kernel
theorem dL_order_13 : decode cL_order 13 = .ok (.ireturn, 1) := by decide +kernel
theorem dL_order_14 : decode cL_order 14 = .ok (.iconst 0, 1) := by decide +kernel
theorem dL_order_15 : decode cL_order 15 = .ok (.ireturn, 1) := by decide +kernel
theorem dL_line_0 : decode cL_line 0 = .ok (.aload_n 0, 1) := by decide +kernel
theorem dL_line_1 : decode cL_line 1 = .ok (.iload_n 1, 1) := by decide +kernel
theorem dL_line_2 : decode cL_line 2 = .ok (.iload_n 2, 1) := by decide +kernel
theorem dL_line_3 : decode cL_line 3 = .ok (.iload_n 3, 1) := by decide +kernel
theorem dL_line_4 : decode cL_line 4 = .ok (.invokevirtual 21, 3) := by decide +kernel
theorem dL_line_7 : decode cL_line 7 = .ok (.goto 15, 3) := by decide +kernel
theorem dL_line_10 : decode cL_line 10 = .ok (.astore 4, 2) := by decide +kernel
theorem dL_line_12 : decode cL_line 12 = .ok (.iconst 1, 1) := by decide +kernel
theorem dL_line_13 : decode cL_line 13 = .ok (.ireturn, 1) := by decide +kernel
theorem dL_line_14 : decode cL_line 14 = .ok (.astore 4, 2) := by decide +kernel
theorem dL_line_16 : decode cL_line 16 = .ok (.iconst 2, 1) := by decide +kernel
theorem dL_line_17 : decode cL_line 17 = .ok (.ireturn, 1) := by decide +kernel
theorem dL_line_18 : decode cL_line 18 = .ok (.astore 4, 2) := by decide +kernel
theorem dL_line_20 : decode cL_line 20 = .ok (.iconst 3, 1) := by decide +kernel
theorem dL_line_21 : decode cL_line 21 = .ok (.ireturn, 1) := by decide +kernel
theorem dL_line_22 : decode cL_line 22 = .ok (.iconst 0, 1) := by decide +kernel
theorem dL_line_23 : decode cL_line 23 = .ok (.ireturn, 1) := by decide +kernel
theorem dL_cell__0 : decode cL_cell_ 0 = .ok (.aload_n 2, 1) := by decide +kernel
theorem dL_cell__1 : decode cL_cell_ 1 = .ok (.iconst 0, 1) := by decide +kernel
theorem dL_cell__2 : decode cL_cell_ 2 = .ok (.aload_n 0, 1) := by decide +kernel
theorem dL_cell__3 : decode cL_cell_ 3 = .ok (.iload_n 1, 1) := by decide +kernel
theorem dL_cell__4 : decode cL_cell_ 4 = .ok (.invokevirtual 29, 3) := by decide +kernel
theorem dL_cell__7 : decode cL_cell_ 7 = .ok (.i2l, 1) := by decide +kernel
theorem dL_cell__8 : decode cL_cell_ 8 = .ok (.lastore, 1) := by decide +kernel
theorem dL_cell__9 : decode cL_cell_ 9 = .ok (.goto 9, 3) := by decide +kernel
theorem dL_cell__12 : decode cL_cell_ 12 = .ok (.astore_n 3, 1) := by decide +kernel
theorem dL_cell__13 : decode cL_cell_ 13 = .ok (.iconst 1, 1) := by decide +kernel
theorem dL_cell__14 : decode cL_cell_ 14 = .ok (.ireturn, 1) := by decide +kernel
theorem dL_cell__15 : decode cL_cell_ 15 = .ok (.astore_n 3, 1) := by decide +kernel
theorem dL_cell__16 : decode cL_cell_ 16 = .ok (.iconst 2, 1) := by decide +kernel
theorem dL_cell__17 : decode cL_cell_ 17 = .ok (.ireturn, 1) := by decide +kernel
theorem dL_cell__18 : decode cL_cell_ 18 = .ok (.iconst 0, 1) := by decide +kernel
theorem dL_cell__19 : decode cL_cell_ 19 = .ok (.ireturn, 1) := by decide +kernel
theorem dL_light_0 : decode cL_light 0 = .ok (.aload_n 3, 1) := by decide +kernel
theorem dL_light_1 : decode cL_light 1 = .ok (.iconst 0, 1) := by decide +kernel
theorem dL_light_2 : decode cL_light 2 = .ok (.aload_n 0, 1) := by decide +kernel
theorem dL_light_3 : decode cL_light 3 = .ok (.iload_n 1, 1) := by decide +kernel
theorem dL_light_4 : decode cL_light 4 = .ok (.iload_n 2, 1) := by decide +kernel
theorem dL_light_5 : decode cL_light 5 = .ok (.invokevirtual 33, 3) := by decide +kernel
theorem dL_light_8 : decode cL_light 8 = .ok (.ifCond .eq 7, 3) := by decide +kernel
theorem dL_light_11 : decode cL_light 11 = .ok (.lconst 1, 1) := by decide +kernel
theorem dL_light_12 : decode cL_light 12 = .ok (.goto 4, 3) := by decide +kernel
theorem dL_light_15 : decode cL_light 15 = .ok (.lconst 0, 1) := by decide +kernel
theorem dL_light_16 : decode cL_light 16 = .ok (.lastore, 1) := by decide +kernel
theorem dL_light_17 : decode cL_light 17 = .ok (.goto 7, 3) := by decide +kernel
theorem dL_light_20 : decode cL_light 20 = .ok (.astore 4, 2) := by decide +kernel
theorem dL_light_22 : decode cL_light 22 = .ok (.iconst 1, 1) := by decide +kernel
theorem dL_light_23 : decode cL_light 23 = .ok (.ireturn, 1) := by decide +kernel
theorem dL_light_24 : decode cL_light 24 = .ok (.iconst 0, 1) := by decide +kernel
theorem dL_light_25 : decode cL_light 25 = .ok (.ireturn, 1) := by decide +kernel
theorem dL_scan_0 : decode cL_scan 0 = .ok (.aload 4, 2) := by decide +kernel
theorem dL_scan_2 : decode cL_scan 2 = .ok (.iconst 0, 1) := by decide +kernel
theorem dL_scan_3 : decode cL_scan 3 = .ok (.aload_n 0, 1) := by decide +kernel
theorem dL_scan_4 : decode cL_scan 4 = .ok (.iload_n 1, 1) := by decide +kernel
theorem dL_scan_5 : decode cL_scan 5 = .ok (.iload_n 2, 1) := by decide +kernel
theorem dL_scan_6 : decode cL_scan 6 = .ok (.iload_n 3, 1) := by decide +kernel
theorem dL_scan_7 : decode cL_scan 7 = .ok (.invokevirtual 39, 3) := by decide +kernel
theorem dL_scan_10 : decode cL_scan 10 = .ok (.i2l, 1) := by decide +kernel
theorem dL_scan_11 : decode cL_scan 11 = .ok (.lastore, 1) := by decide +kernel
theorem dL_scan_12 : decode cL_scan 12 = .ok (.goto 11, 3) := by decide +kernel
theorem dL_scan_15 : decode cL_scan 15 = .ok (.astore 5, 2) := by decide +kernel
theorem dL_scan_17 : decode cL_scan 17 = .ok (.iconst 1, 1) := by decide +kernel
theorem dL_scan_18 : decode cL_scan 18 = .ok (.ireturn, 1) := by decide +kernel
theorem dL_scan_19 : decode cL_scan 19 = .ok (.astore 5, 2) := by decide +kernel
theorem dL_scan_21 : decode cL_scan 21 = .ok (.iconst 2, 1) := by decide +kernel
theorem dL_scan_22 : decode cL_scan 22 = .ok (.ireturn, 1) := by decide +kernel
theorem dL_scan_23 : decode cL_scan 23 = .ok (.iconst 0, 1) := by decide +kernel
theorem dL_scan_24 : decode cL_scan 24 = .ok (.ireturn, 1) := by decide +kernel
theorem dL_undo_0 : decode cL_undo 0 = .ok (.aload_n 3, 1) := by decide +kernel
theorem dL_undo_1 : decode cL_undo 1 = .ok (.iconst 0, 1) := by decide +kernel
theorem dL_undo_2 : decode cL_undo 2 = .ok (.aload_n 0, 1) := by decide +kernel
theorem dL_undo_3 : decode cL_undo 3 = .ok (.iload_n 1, 1) := by decide +kernel
theorem dL_undo_4 : decode cL_undo 4 = .ok (.iload_n 2, 1) := by decide +kernel
theorem dL_undo_5 : decode cL_undo 5 = .ok (.invokevirtual 43, 3) := by decide +kernel
theorem dL_undo_8 : decode cL_undo 8 = .ok (.i2l, 1) := by decide +kernel
theorem dL_undo_9 : decode cL_undo 9 = .ok (.lastore, 1) := by decide +kernel
theorem dL_undo_10 : decode cL_undo 10 = .ok (.goto 15, 3) := by decide +kernel
theorem dL_undo_13 : decode cL_undo 13 = .ok (.astore 4, 2) := by decide +kernel
theorem dL_undo_15 : decode cL_undo 15 = .ok (.iconst 1, 1) := by decide +kernel
theorem dL_undo_16 : decode cL_undo 16 = .ok (.ireturn, 1) := by decide +kernel
theorem dL_undo_17 : decode cL_undo 17 = .ok (.astore 4, 2) := by decide +kernel
theorem dL_undo_19 : decode cL_undo 19 = .ok (.iconst 2, 1) := by decide +kernel
theorem dL_undo_20 : decode cL_undo 20 = .ok (.ireturn, 1) := by decide +kernel
theorem dL_undo_21 : decode cL_undo 21 = .ok (.astore 4, 2) := by decide +kernel
theorem dL_undo_23 : decode cL_undo 23 = .ok (.iconst 3, 1) := by decide +kernel
theorem dL_undo_24 : decode cL_undo 24 = .ok (.ireturn, 1) := by decide +kernel
theorem dL_undo_25 : decode cL_undo 25 = .ok (.iconst 0, 1) := by decide +kernel
theorem dL_undo_26 : decode cL_undo 26 = .ok (.ireturn, 1) := by decide +kernel
theorem dL_miss_0 : decode cL_miss 0 = .ok (.aload 4, 2) := by decide +kernel
theorem dL_miss_2 : decode cL_miss 2 = .ok (.iconst 0, 1) := by decide +kernel
theorem dL_miss_3 : decode cL_miss 3 = .ok (.aload_n 0, 1) := by decide +kernel
theorem dL_miss_4 : decode cL_miss 4 = .ok (.iload_n 1, 1) := by decide +kernel
theorem dL_miss_5 : decode cL_miss 5 = .ok (.iload_n 2, 1) := by decide +kernel
theorem dL_miss_6 : decode cL_miss 6 = .ok (.iload_n 3, 1) := by decide +kernel
theorem dL_miss_7 : decode cL_miss 7 = .ok (.invokevirtual 46, 3) := by decide +kernel
theorem dL_miss_10 : decode cL_miss 10 = .ok (.i2l, 1) := by decide +kernel
theorem dL_miss_11 : decode cL_miss 11 = .ok (.lastore, 1) := by decide +kernel
theorem dL_miss_12 : decode cL_miss 12 = .ok (.goto 15, 3) := by decide +kernel
theorem dL_miss_15 : decode cL_miss 15 = .ok (.astore 5, 2) := by decide +kernel
theorem dL_miss_17 : decode cL_miss 17 = .ok (.iconst 1, 1) := by decide +kernel
theorem dL_miss_18 : decode cL_miss 18 = .ok (.ireturn, 1) := by decide +kernel
theorem dL_miss_19 : decode cL_miss 19 = .ok (.astore 5, 2) := by decide +kernel
theorem dL_miss_21 : decode cL_miss 21 = .ok (.iconst 2, 1) := by decide +kernel
theorem dL_miss_22 : decode cL_miss 22 = .ok (.ireturn, 1) := by decide +kernel
theorem dL_miss_23 : decode cL_miss 23 = .ok (.astore 5, 2) := by decide +kernel
theorem dL_miss_25 : decode cL_miss 25 = .ok (.iconst 3, 1) := by decide +kernel
theorem dL_miss_26 : decode cL_miss 26 = .ok (.ireturn, 1) := by decide +kernel
theorem dL_miss_27 : decode cL_miss 27 = .ok (.iconst 0, 1) := by decide +kernel
theorem dL_miss_28 : decode cL_miss 28 = .ok (.ireturn, 1) := by decide +kernel
theorem dL_day_0 : decode cL_day 0 = .ok (.aload_n 0, 1) := by decide +kernel
theorem dL_day_1 : decode cL_day 1 = .ok (.iload_n 1, 1) := by decide +kernel
theorem dL_day_2 : decode cL_day 2 = .ok (.invokevirtual 49, 3) := by decide +kernel
theorem dL_day_5 : decode cL_day 5 = .ok (.goto 9, 3) := by decide +kernel
theorem dL_day_8 : decode cL_day 8 = .ok (.astore_n 2, 1) := by decide +kernel
theorem dL_day_9 : decode cL_day 9 = .ok (.iconst 1, 1) := by decide +kernel
theorem dL_day_10 : decode cL_day 10 = .ok (.ireturn, 1) := by decide +kernel
theorem dL_day_11 : decode cL_day 11 = .ok (.astore_n 2, 1) := by decide +kernel
theorem dL_day_12 : decode cL_day 12 = .ok (.iconst 2, 1) := by decide +kernel
theorem dL_day_13 : decode cL_day 13 = .ok (.ireturn, 1) := by decide +kernel
theorem dL_day_14 : decode cL_day 14 = .ok (.iconst 0, 1) := by decide +kernel
theorem dL_day_15 : decode cL_day 15 = .ok (.ireturn, 1) := by decide +kernel
theorem dL_change_0 : decode cL_change 0 = .ok (.aload 4, 2) := by decide +kernel
theorem dL_change_2 : decode cL_change 2 = .ok (.iconst 0, 1) := by decide +kernel
theorem dL_change_3 : decode cL_change 3 = .ok (.aload_n 0, 1) := by decide +kernel
theorem dL_change_4 : decode cL_change 4 = .ok (.iload_n 1, 1) := by decide +kernel
theorem dL_change_5 : decode cL_change 5 = .ok (.iload_n 2, 1) := by decide +kernel
theorem dL_change_6 : decode cL_change 6 = .ok (.iload_n 3, 1) := by decide +kernel
theorem dL_change_7 : decode cL_change 7 = .ok (.invokevirtual 53, 3) := by decide +kernel
theorem dL_change_10 : decode cL_change 10 = .ok (.ifCond .eq 7, 3) := by decide +kernel
theorem dL_change_13 : decode cL_change 13 = .ok (.lconst 1, 1) := by decide +kernel
theorem dL_change_14 : decode cL_change 14 = .ok (.goto 4, 3) := by decide +kernel
theorem dL_change_17 : decode cL_change 17 = .ok (.lconst 0, 1) := by decide +kernel
theorem dL_change_18 : decode cL_change 18 = .ok (.lastore, 1) := by decide +kernel
theorem dL_change_19 : decode cL_change 19 = .ok (.goto 15, 3) := by decide +kernel
theorem dL_change_22 : decode cL_change 22 = .ok (.astore 5, 2) := by decide +kernel
theorem dL_change_24 : decode cL_change 24 = .ok (.iconst 1, 1) := by decide +kernel
theorem dL_change_25 : decode cL_change 25 = .ok (.ireturn, 1) := by decide +kernel
theorem dL_change_26 : decode cL_change 26 = .ok (.astore 5, 2) := by decide +kernel
theorem dL_change_28 : decode cL_change 28 = .ok (.iconst 2, 1) := by decide +kernel
theorem dL_change_29 : decode cL_change 29 = .ok (.ireturn, 1) := by decide +kernel
theorem dL_change_30 : decode cL_change 30 = .ok (.astore 5, 2) := by decide +kernel
theorem dL_change_32 : decode cL_change 32 = .ok (.iconst 3, 1) := by decide +kernel
theorem dL_change_33 : decode cL_change 33 = .ok (.ireturn, 1) := by decide +kernel
theorem dL_change_34 : decode cL_change 34 = .ok (.iconst 0, 1) := by decide +kernel
theorem dL_change_35 : decode cL_change 35 = .ok (.ireturn, 1) := by decide +kernel
theorem dL_complete_0 : decode cL_complete 0 = .ok (.aload_n 2, 1) := by decide +kernel
theorem dL_complete_1 : decode cL_complete 1 = .ok (.iconst 0, 1) := by decide +kernel
theorem dL_complete_2 : decode cL_complete 2 = .ok (.aload_n 0, 1) := by decide +kernel
theorem dL_complete_3 : decode cL_complete 3 = .ok (.iload_n 1, 1) := by decide +kernel
theorem dL_complete_4 : decode cL_complete 4 = .ok (.invokevirtual 57, 3) := by decide +kernel
theorem dL_complete_7 : decode cL_complete 7 = .ok (.ifCond .eq 7, 3) := by decide +kernel
theorem dL_complete_10 : decode cL_complete 10 = .ok (.lconst 1, 1) := by decide +kernel
theorem dL_complete_11 : decode cL_complete 11 = .ok (.goto 4, 3) := by decide +kernel
theorem dL_complete_14 : decode cL_complete 14 = .ok (.lconst 0, 1) := by decide +kernel
theorem dL_complete_15 : decode cL_complete 15 = .ok (.lastore, 1) := by decide +kernel
theorem dL_complete_16 : decode cL_complete 16 = .ok (.goto 9, 3) := by decide +kernel
theorem dL_complete_19 : decode cL_complete 19 = .ok (.astore_n 3, 1) := by decide +kernel
theorem dL_complete_20 : decode cL_complete 20 = .ok (.iconst 1, 1) := by decide +kernel
theorem dL_complete_21 : decode cL_complete 21 = .ok (.ireturn, 1) := by decide +kernel
theorem dL_complete_22 : decode cL_complete 22 = .ok (.astore_n 3, 1) := by decide +kernel
theorem dL_complete_23 : decode cL_complete 23 = .ok (.iconst 2, 1) := by decide +kernel
theorem dL_complete_24 : decode cL_complete 24 = .ok (.ireturn, 1) := by decide +kernel
theorem dL_complete_25 : decode cL_complete 25 = .ok (.iconst 0, 1) := by decide +kernel
theorem dL_complete_26 : decode cL_complete 26 = .ok (.ireturn, 1) := by decide +kernel
theorem dL_release_0 : decode cL_release 0 = .ok (.aload_n 2, 1) := by decide +kernel
theorem dL_release_1 : decode cL_release 1 = .ok (.iconst 0, 1) := by decide +kernel
theorem dL_release_2 : decode cL_release 2 = .ok (.aload_n 0, 1) := by decide +kernel
theorem dL_release_3 : decode cL_release 3 = .ok (.iload_n 1, 1) := by decide +kernel
theorem dL_release_4 : decode cL_release 4 = .ok (.invokevirtual 61, 3) := by decide +kernel
theorem dL_release_7 : decode cL_release 7 = .ok (.ifCond .eq 7, 3) := by decide +kernel
theorem dL_release_10 : decode cL_release 10 = .ok (.lconst 1, 1) := by decide +kernel
theorem dL_release_11 : decode cL_release 11 = .ok (.goto 4, 3) := by decide +kernel
theorem dL_release_14 : decode cL_release 14 = .ok (.lconst 0, 1) := by decide +kernel
theorem dL_release_15 : decode cL_release 15 = .ok (.lastore, 1) := by decide +kernel
theorem dL_release_16 : decode cL_release 16 = .ok (.goto 9, 3) := by decide +kernel
theorem dL_release_19 : decode cL_release 19 = .ok (.astore_n 3, 1) := by decide +kernel
theorem dL_release_20 : decode cL_release 20 = .ok (.iconst 1, 1) := by decide +kernel
theorem dL_release_21 : decode cL_release 21 = .ok (.ireturn, 1) := by decide +kernel
theorem dL_release_22 : decode cL_release 22 = .ok (.astore_n 3, 1) := by decide +kernel
theorem dL_release_23 : decode cL_release 23 = .ok (.iconst 2, 1) := by decide +kernel
theorem dL_release_24 : decode cL_release 24 = .ok (.ireturn, 1) := by decide +kernel
theorem dL_release_25 : decode cL_release 25 = .ok (.iconst 0, 1) := by decide +kernel
theorem dL_release_26 : decode cL_release 26 = .ok (.ireturn, 1) := by decide +kernel
theorem dL_seed_0 : decode cL_seed 0 = .ok (.aload_n 0, 1) := by decide +kernel
theorem dL_seed_1 : decode cL_seed 1 = .ok (.iload_n 1, 1) := by decide +kernel
theorem dL_seed_2 : decode cL_seed 2 = .ok (.invokevirtual 64, 3) := by decide +kernel
theorem dL_seed_5 : decode cL_seed 5 = .ok (.goto 6, 3) := by decide +kernel
theorem dL_seed_8 : decode cL_seed 8 = .ok (.astore_n 2, 1) := by decide +kernel
theorem dL_seed_9 : decode cL_seed 9 = .ok (.iconst 1, 1) := by decide +kernel
theorem dL_seed_10 : decode cL_seed 10 = .ok (.ireturn, 1) := by decide +kernel
theorem dL_seed_11 : decode cL_seed 11 = .ok (.iconst 0, 1) := by decide +kernel
theorem dL_seed_12 : decode cL_seed 12 = .ok (.ireturn, 1) := by decide +kernel
theorem dL_told_0 : decode cL_told 0 = .ok (.aload_n 3, 1) := by decide +kernel
theorem dL_told_1 : decode cL_told 1 = .ok (.iconst 0, 1) := by decide +kernel
theorem dL_told_2 : decode cL_told 2 = .ok (.aload_n 0, 1) := by decide +kernel
theorem dL_told_3 : decode cL_told 3 = .ok (.iload_n 1, 1) := by decide +kernel
theorem dL_told_4 : decode cL_told 4 = .ok (.iload_n 2, 1) := by decide +kernel
theorem dL_told_5 : decode cL_told 5 = .ok (.invokevirtual 67, 3) := by decide +kernel
theorem dL_told_8 : decode cL_told 8 = .ok (.i2l, 1) := by decide +kernel
theorem dL_told_9 : decode cL_told 9 = .ok (.lastore, 1) := by decide +kernel
theorem dL_told_10 : decode cL_told 10 = .ok (.goto 11, 3) := by decide +kernel
theorem dL_told_13 : decode cL_told 13 = .ok (.astore 4, 2) := by decide +kernel
theorem dL_told_15 : decode cL_told 15 = .ok (.iconst 1, 1) := by decide +kernel
theorem dL_told_16 : decode cL_told 16 = .ok (.ireturn, 1) := by decide +kernel
theorem dL_told_17 : decode cL_told 17 = .ok (.astore 4, 2) := by decide +kernel
theorem dL_told_19 : decode cL_told 19 = .ok (.iconst 2, 1) := by decide +kernel
theorem dL_told_20 : decode cL_told 20 = .ok (.ireturn, 1) := by decide +kernel
theorem dL_told_21 : decode cL_told 21 = .ok (.iconst 0, 1) := by decide +kernel
theorem dL_told_22 : decode cL_told 22 = .ok (.ireturn, 1) := by decide +kernel
theorem dL_piece_0 : decode cL_piece 0 = .ok (.aload 4, 2) := by decide +kernel
theorem dL_piece_2 : decode cL_piece 2 = .ok (.iconst 0, 1) := by decide +kernel
theorem dL_piece_3 : decode cL_piece 3 = .ok (.aload_n 0, 1) := by decide +kernel
theorem dL_piece_4 : decode cL_piece 4 = .ok (.iload_n 1, 1) := by decide +kernel
theorem dL_piece_5 : decode cL_piece 5 = .ok (.iload_n 2, 1) := by decide +kernel
theorem dL_piece_6 : decode cL_piece 6 = .ok (.iload_n 3, 1) := by decide +kernel
theorem dL_piece_7 : decode cL_piece 7 = .ok (.invokevirtual 70, 3) := by decide +kernel
theorem dL_piece_10 : decode cL_piece 10 = .ok (.i2l, 1) := by decide +kernel
theorem dL_piece_11 : decode cL_piece 11 = .ok (.lastore, 1) := by decide +kernel
theorem dL_piece_12 : decode cL_piece 12 = .ok (.goto 11, 3) := by decide +kernel
theorem dL_piece_15 : decode cL_piece 15 = .ok (.astore 5, 2) := by decide +kernel
theorem dL_piece_17 : decode cL_piece 17 = .ok (.iconst 1, 1) := by decide +kernel
theorem dL_piece_18 : decode cL_piece 18 = .ok (.ireturn, 1) := by decide +kernel
theorem dL_piece_19 : decode cL_piece 19 = .ok (.astore 5, 2) := by decide +kernel
theorem dL_piece_21 : decode cL_piece 21 = .ok (.iconst 2, 1) := by decide +kernel
theorem dL_piece_22 : decode cL_piece 22 = .ok (.ireturn, 1) := by decide +kernel
theorem dL_piece_23 : decode cL_piece 23 = .ok (.iconst 0, 1) := by decide +kernel
theorem dL_piece_24 : decode cL_piece 24 = .ok (.ireturn, 1) := by decide +kernel
theorem dL_errors_0 : decode cL_errors 0 = .ok (.aload_n 2, 1) := by decide +kernel
theorem dL_errors_1 : decode cL_errors 1 = .ok (.iconst 0, 1) := by decide +kernel
theorem dL_errors_2 : decode cL_errors 2 = .ok (.aload_n 0, 1) := by decide +kernel
theorem dL_errors_3 : decode cL_errors 3 = .ok (.iload_n 1, 1) := by decide +kernel
theorem dL_errors_4 : decode cL_errors 4 = .ok (.invokevirtual 73, 3) := by decide +kernel
theorem dL_errors_7 : decode cL_errors 7 = .ok (.i2l, 1) := by decide +kernel
theorem dL_errors_8 : decode cL_errors 8 = .ok (.lastore, 1) := by decide +kernel
theorem dL_errors_9 : decode cL_errors 9 = .ok (.goto 6, 3) := by decide +kernel
theorem dL_errors_12 : decode cL_errors 12 = .ok (.astore_n 3, 1) := by decide +kernel
theorem dL_errors_13 : decode cL_errors 13 = .ok (.iconst 1, 1) := by decide +kernel
theorem dL_errors_14 : decode cL_errors 14 = .ok (.ireturn, 1) := by decide +kernel
theorem dL_errors_15 : decode cL_errors 15 = .ok (.iconst 0, 1) := by decide +kernel
theorem dL_errors_16 : decode cL_errors 16 = .ok (.ireturn, 1) := by decide +kernel
