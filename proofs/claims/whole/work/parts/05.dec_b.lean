theorem dX2_init_0 : decode cX2_init 0 = .ok (.aload_n 0, 1) := by decide +kernel
theorem dX2_init_1 : decode cX2_init 1 = .ok (.invokespecial 1, 3) := by decide +kernel
theorem dX2_init_4 : decode cX2_init 4 = .ok (.aload_n 0, 1) := by decide +kernel
theorem dX2_init_5 : decode cX2_init 5 = .ok (.bipush 16, 2) := by decide +kernel
theorem dX2_init_7 : decode cX2_init 7 = .ok (.newarray .boolean, 2) := by decide +kernel
theorem dX2_init_9 : decode cX2_init 9 = .ok (.putfield 7, 3) := by decide +kernel
theorem dX2_init_12 : decode cX2_init 12 = .ok (.aload_n 0, 1) := by decide +kernel
theorem dX2_init_13 : decode cX2_init 13 = .ok (.bipush 10, 2) := by decide +kernel
theorem dX2_init_15 : decode cX2_init 15 = .ok (.newarray .int, 2) := by decide +kernel
theorem dX2_init_17 : decode cX2_init 17 = .ok (.putfield 13, 3) := by decide +kernel
theorem dX2_init_20 : decode cX2_init 20 = .ok (.aload_n 0, 1) := by decide +kernel
theorem dX2_init_21 : decode cX2_init 21 = .ok (.lconst 1, 1) := by decide +kernel
theorem dX2_init_22 : decode cX2_init 22 = .ok (.putfield 17, 3) := by decide +kernel
theorem dX2_init_25 : decode cX2_init 25 = .ok (.aload_n 0, 1) := by decide +kernel
theorem dX2_init_26 : decode cX2_init 26 = .ok (.bipush 20, 2) := by decide +kernel
theorem dX2_init_28 : decode cX2_init 28 = .ok (.newarray .int, 2) := by decide +kernel
theorem dX2_init_30 : decode cX2_init 30 = .ok (.putfield 21, 3) := by decide +kernel
theorem dX2_init_33 : decode cX2_init 33 = .ok (.aload_n 0, 1) := by decide +kernel
theorem dX2_init_34 : decode cX2_init 34 = .ok (.bipush 20, 2) := by decide +kernel
theorem dX2_init_36 : decode cX2_init 36 = .ok (.newarray .int, 2) := by decide +kernel
theorem dX2_init_38 : decode cX2_init 38 = .ok (.putfield 24, 3) := by decide +kernel
theorem dX2_init_41 : decode cX2_init 41 = .ok (.aload_n 0, 1) := by decide +kernel
theorem dX2_init_42 : decode cX2_init 42 = .ok (.sipush 200, 3) := by decide +kernel
theorem dX2_init_45 : decode cX2_init 45 = .ok (.newarray .int, 2) := by decide +kernel
theorem dX2_init_47 : decode cX2_init 47 = .ok (.putfield 27, 3) := by decide +kernel
theorem dX2_init_50 : decode cX2_init 50 = .ok (.aload_n 0, 1) := by decide +kernel
theorem dX2_init_51 : decode cX2_init 51 = .ok (.sipush 200, 3) := by decide +kernel
theorem dX2_init_54 : decode cX2_init 54 = .ok (.newarray .int, 2) := by decide +kernel
theorem dX2_init_56 : decode cX2_init 56 = .ok (.putfield 30, 3) := by decide +kernel
theorem dX2_init_59 : decode cX2_init 59 = .ok (.aload_n 0, 1) := by decide +kernel
theorem dX2_init_60 : decode cX2_init 60 = .ok (.sipush 200, 3) := by decide +kernel
theorem dX2_init_63 : decode cX2_init 63 = .ok (.newarray .int, 2) := by decide +kernel
theorem dX2_init_65 : decode cX2_init 65 = .ok (.putfield 33, 3) := by decide +kernel
theorem dX2_init_68 : decode cX2_init 68 = .ok (.aload_n 0, 1) := by decide +kernel
theorem dX2_init_69 : decode cX2_init 69 = .ok (.bipush 8, 2) := by decide +kernel
theorem dX2_init_71 : decode cX2_init 71 = .ok (.newarray .int, 2) := by decide +kernel
theorem dX2_init_73 : decode cX2_init 73 = .ok (.putfield 36, 3) := by decide +kernel
theorem dX2_init_76 : decode cX2_init 76 = .ok (.aload_n 0, 1) := by decide +kernel
theorem dX2_init_77 : decode cX2_init 77 = .ok (.iload_n 1, 1) := by decide +kernel
theorem dX2_init_78 : decode cX2_init 78 = .ok (.ifCond .ge 7, 3) := by decide +kernel
theorem dX2_init_81 : decode cX2_init 81 = .ok (.iconst 0, 1) := by decide +kernel
theorem dX2_init_82 : decode cX2_init 82 = .ok (.goto 15, 3) := by decide +kernel
theorem dX2_init_85 : decode cX2_init 85 = .ok (.iload_n 1, 1) := by decide +kernel
theorem dX2_init_86 : decode cX2_init 86 = .ok (.bipush 16, 2) := by decide +kernel
theorem dX2_init_88 : decode cX2_init 88 = .ok (.if_icmp .le 8, 3) := by decide +kernel
theorem dX2_init_91 : decode cX2_init 91 = .ok (.bipush 16, 2) := by decide +kernel
theorem dX2_init_93 : decode cX2_init 93 = .ok (.goto 4, 3) := by decide +kernel
theorem dX2_init_96 : decode cX2_init 96 = .ok (.iload_n 1, 1) := by decide +kernel
theorem dX2_init_97 : decode cX2_init 97 = .ok (.putfield 39, 3) := by decide +kernel
theorem dX2_init_100 : decode cX2_init 100 = .ok (.return_, 1) := by decide +kernel
theorem dX2_thrown_0 : decode cX2_thrown 0 = .ok (.aload_n 0, 1) := by decide +kernel
theorem dX2_thrown_1 : decode cX2_thrown 1 = .ok (.getfield 43, 3) := by decide +kernel
theorem dX2_thrown_4 : decode cX2_thrown 4 = .ok (.ireturn, 1) := by decide +kernel
theorem dX2_below_0 : decode cX2_below 0 = .ok (.iload_n 0, 1) := by decide +kernel
theorem dX2_below_1 : decode cX2_below 1 = .ok (.ifCond .lt 12, 3) := by decide +kernel
theorem dX2_below_4 : decode cX2_below 4 = .ok (.iload_n 0, 1) := by decide +kernel
theorem dX2_below_5 : decode cX2_below 5 = .ok (.iload_n 1, 1) := by decide +kernel
theorem dX2_below_6 : decode cX2_below 6 = .ok (.if_icmp .ge 7, 3) := by decide +kernel
theorem dX2_below_9 : decode cX2_below 9 = .ok (.iconst 1, 1) := by decide +kernel
theorem dX2_below_10 : decode cX2_below 10 = .ok (.goto 4, 3) := by decide +kernel
theorem dX2_below_13 : decode cX2_below 13 = .ok (.iconst 0, 1) := by decide +kernel
theorem dX2_below_14 : decode cX2_below 14 = .ok (.ireturn, 1) := by decide +kernel
theorem dX2_hasLine_0 : decode cX2_hasLine 0 = .ok (.aload_n 0, 1) := by decide +kernel
theorem dX2_hasLine_1 : decode cX2_hasLine 1 = .ok (.getfield 27, 3) := by decide +kernel
theorem dX2_hasLine_4 : decode cX2_hasLine 4 = .ok (.bipush 10, 2) := by decide +kernel
theorem dX2_hasLine_6 : decode cX2_hasLine 6 = .ok (.iload_n 1, 1) := by decide +kernel
theorem dX2_hasLine_7 : decode cX2_hasLine 7 = .ok (.imul, 1) := by decide +kernel
theorem dX2_hasLine_8 : decode cX2_hasLine 8 = .ok (.iload_n 2, 1) := by decide +kernel
theorem dX2_hasLine_9 : decode cX2_hasLine 9 = .ok (.iadd, 1) := by decide +kernel
theorem dX2_hasLine_10 : decode cX2_hasLine 10 = .ok (.iaload, 1) := by decide +kernel
theorem dX2_hasLine_11 : decode cX2_hasLine 11 = .ok (.ifCond .le 7, 3) := by decide +kernel
theorem dX2_hasLine_14 : decode cX2_hasLine 14 = .ok (.iconst 1, 1) := by decide +kernel
theorem dX2_hasLine_15 : decode cX2_hasLine 15 = .ok (.goto 4, 3) := by decide +kernel
theorem dX2_hasLine_18 : decode cX2_hasLine 18 = .ok (.iconst 0, 1) := by decide +kernel
theorem dX2_hasLine_19 : decode cX2_hasLine 19 = .ok (.ireturn, 1) := by decide +kernel
theorem dX2_linesOf_0 : decode cX2_linesOf 0 = .ok (.iconst 0, 1) := by decide +kernel
theorem dX2_linesOf_1 : decode cX2_linesOf 1 = .ok (.istore_n 2, 1) := by decide +kernel
theorem dX2_linesOf_2 : decode cX2_linesOf 2 = .ok (.iconst 0, 1) := by decide +kernel
theorem dX2_linesOf_3 : decode cX2_linesOf 3 = .ok (.istore_n 3, 1) := by decide +kernel
theorem dX2_linesOf_4 : decode cX2_linesOf 4 = .ok (.iload_n 3, 1) := by decide +kernel
theorem dX2_linesOf_5 : decode cX2_linesOf 5 = .ok (.bipush 10, 2) := by decide +kernel
theorem dX2_linesOf_7 : decode cX2_linesOf 7 = .ok (.if_icmp .ge 21, 3) := by decide +kernel
theorem dX2_linesOf_10 : decode cX2_linesOf 10 = .ok (.aload_n 0, 1) := by decide +kernel
theorem dX2_linesOf_11 : decode cX2_linesOf 11 = .ok (.iload_n 1, 1) := by decide +kernel
theorem dX2_linesOf_12 : decode cX2_linesOf 12 = .ok (.iload_n 3, 1) := by decide +kernel
theorem dX2_linesOf_13 : decode cX2_linesOf 13 = .ok (.invokevirtual 46, 3) := by decide +kernel
theorem dX2_linesOf_16 : decode cX2_linesOf 16 = .ok (.ifCond .eq 6, 3) := by decide +kernel
theorem dX2_linesOf_19 : decode cX2_linesOf 19 = .ok (.iinc 2 1, 3) := by decide +kernel
theorem dX2_linesOf_22 : decode cX2_linesOf 22 = .ok (.iinc 3 1, 3) := by decide +kernel
theorem dX2_linesOf_25 : decode cX2_linesOf 25 = .ok (.goto (-21), 3) := by decide +kernel
theorem dX2_linesOf_28 : decode cX2_linesOf 28 = .ok (.iload_n 2, 1) := by decide +kernel
theorem dX2_linesOf_29 : decode cX2_linesOf 29 = .ok (.ireturn, 1) := by decide +kernel
theorem dX2_at_0 : decode cX2_at 0 = .ok (.iconst 0, 1) := by decide +kernel
theorem dX2_at_1 : decode cX2_at 1 = .ok (.istore_n 2, 1) := by decide +kernel
theorem dX2_at_2 : decode cX2_at 2 = .ok (.iload_n 2, 1) := by decide +kernel
theorem dX2_at_3 : decode cX2_at 3 = .ok (.aload_n 0, 1) := by decide +kernel
theorem dX2_at_4 : decode cX2_at 4 = .ok (.getfield 50, 3) := by decide +kernel
theorem dX2_at_7 : decode cX2_at 7 = .ok (.if_icmp .ge 21, 3) := by decide +kernel
theorem dX2_at_10 : decode cX2_at 10 = .ok (.aload_n 0, 1) := by decide +kernel
theorem dX2_at_11 : decode cX2_at 11 = .ok (.getfield 24, 3) := by decide +kernel
theorem dX2_at_14 : decode cX2_at 14 = .ok (.iload_n 2, 1) := by decide +kernel
theorem dX2_at_15 : decode cX2_at 15 = .ok (.iaload, 1) := by decide +kernel
theorem dX2_at_16 : decode cX2_at 16 = .ok (.iload_n 1, 1) := by decide +kernel
theorem dX2_at_17 : decode cX2_at 17 = .ok (.if_icmp .ne 5, 3) := by decide +kernel
theorem dX2_at_20 : decode cX2_at 20 = .ok (.iload_n 2, 1) := by decide +kernel
theorem dX2_at_21 : decode cX2_at 21 = .ok (.ireturn, 1) := by decide +kernel
theorem dX2_at_22 : decode cX2_at 22 = .ok (.iinc 2 1, 3) := by decide +kernel
theorem dX2_at_25 : decode cX2_at 25 = .ok (.goto (-23), 3) := by decide +kernel
theorem dX2_at_28 : decode cX2_at 28 = .ok (.iconst (-1), 1) := by decide +kernel
theorem dX2_at_29 : decode cX2_at 29 = .ok (.ireturn, 1) := by decide +kernel
theorem dX2_tote_0 : decode cX2_tote 0 = .ok (.aload_n 0, 1) := by decide +kernel
theorem dX2_tote_1 : decode cX2_tote 1 = .ok (.iload_n 1, 1) := by decide +kernel
theorem dX2_tote_2 : decode cX2_tote 2 = .ok (.bipush 10, 2) := by decide +kernel
theorem dX2_tote_4 : decode cX2_tote 4 = .ok (.invokestatic 53, 3) := by decide +kernel
theorem dX2_tote_7 : decode cX2_tote 7 = .ok (.ifCond .eq 18, 3) := by decide +kernel
theorem dX2_tote_10 : decode cX2_tote 10 = .ok (.iload_n 2, 1) := by decide +kernel
theorem dX2_tote_11 : decode cX2_tote 11 = .ok (.iconst 1, 1) := by decide +kernel
theorem dX2_tote_12 : decode cX2_tote 12 = .ok (.if_icmp .lt 13, 3) := by decide +kernel
theorem dX2_tote_15 : decode cX2_tote 15 = .ok (.iload_n 2, 1) := by decide +kernel
theorem dX2_tote_16 : decode cX2_tote 16 = .ok (.bipush 100, 2) := by decide +kernel
theorem dX2_tote_18 : decode cX2_tote 18 = .ok (.if_icmp .gt 7, 3) := by decide +kernel
theorem dX2_tote_21 : decode cX2_tote 21 = .ok (.iconst 0, 1) := by decide +kernel
theorem dX2_tote_22 : decode cX2_tote 22 = .ok (.goto 4, 3) := by decide +kernel
theorem dX2_tote_25 : decode cX2_tote 25 = .ok (.iconst 1, 1) := by decide +kernel
theorem dX2_tote_26 : decode cX2_tote 26 = .ok (.putfield 43, 3) := by decide +kernel
theorem dX2_tote_29 : decode cX2_tote 29 = .ok (.aload_n 0, 1) := by decide +kernel
theorem dX2_tote_30 : decode cX2_tote 30 = .ok (.getfield 43, 3) := by decide +kernel
theorem dX2_tote_33 : decode cX2_tote 33 = .ok (.ifCond .eq 5, 3) := by decide +kernel
theorem dX2_tote_36 : decode cX2_tote 36 = .ok (.iconst 0, 1) := by decide +kernel
theorem dX2_tote_37 : decode cX2_tote 37 = .ok (.ireturn, 1) := by decide +kernel
theorem dX2_tote_38 : decode cX2_tote 38 = .ok (.aload_n 0, 1) := by decide +kernel
theorem dX2_tote_39 : decode cX2_tote 39 = .ok (.getfield 13, 3) := by decide +kernel
theorem dX2_tote_42 : decode cX2_tote 42 = .ok (.iload_n 1, 1) := by decide +kernel
theorem dX2_tote_43 : decode cX2_tote 43 = .ok (.dup2, 1) := by decide +kernel
theorem dX2_tote_44 : decode cX2_tote 44 = .ok (.iaload, 1) := by decide +kernel
theorem dX2_tote_45 : decode cX2_tote 45 = .ok (.iload_n 2, 1) := by decide +kernel
theorem dX2_tote_46 : decode cX2_tote 46 = .ok (.iadd, 1) := by decide +kernel
theorem dX2_tote_47 : decode cX2_tote 47 = .ok (.iastore, 1) := by decide +kernel
theorem dX2_tote_48 : decode cX2_tote 48 = .ok (.aload_n 0, 1) := by decide +kernel
theorem dX2_tote_49 : decode cX2_tote 49 = .ok (.getfield 13, 3) := by decide +kernel
theorem dX2_tote_52 : decode cX2_tote 52 = .ok (.iload_n 1, 1) := by decide +kernel
theorem dX2_tote_53 : decode cX2_tote 53 = .ok (.iaload, 1) := by decide +kernel
theorem dX2_tote_54 : decode cX2_tote 54 = .ok (.ireturn, 1) := by decide +kernel
theorem dX2_order_0 : decode cX2_order 0 = .ok (.aload_n 0, 1) := by decide +kernel
theorem dX2_order_1 : decode cX2_order 1 = .ok (.aload_n 0, 1) := by decide +kernel
theorem dX2_order_2 : decode cX2_order 2 = .ok (.getfield 50, 3) := by decide +kernel
theorem dX2_order_5 : decode cX2_order 5 = .ok (.bipush 20, 2) := by decide +kernel
theorem dX2_order_7 : decode cX2_order 7 = .ok (.if_icmp .ne 7, 3) := by decide +kernel
theorem dX2_order_10 : decode cX2_order 10 = .ok (.iconst 1, 1) := by decide +kernel
theorem dX2_order_11 : decode cX2_order 11 = .ok (.goto 4, 3) := by decide +kernel
theorem dX2_order_14 : decode cX2_order 14 = .ok (.iconst 0, 1) := by decide +kernel
theorem dX2_order_15 : decode cX2_order 15 = .ok (.putfield 43, 3) := by decide +kernel
theorem dX2_order_18 : decode cX2_order 18 = .ok (.aload_n 0, 1) := by decide +kernel
theorem dX2_order_19 : decode cX2_order 19 = .ok (.getfield 43, 3) := by decide +kernel
theorem dX2_order_22 : decode cX2_order 22 = .ok (.ifCond .eq 5, 3) := by decide +kernel
theorem dX2_order_25 : decode cX2_order 25 = .ok (.iconst 0, 1) := by decide +kernel
theorem dX2_order_26 : decode cX2_order 26 = .ok (.ireturn, 1) := by decide +kernel
theorem dX2_order_27 : decode cX2_order 27 = .ok (.aload_n 0, 1) := by decide +kernel
theorem dX2_order_28 : decode cX2_order 28 = .ok (.getfield 21, 3) := by decide +kernel
theorem dX2_order_31 : decode cX2_order 31 = .ok (.aload_n 0, 1) := by decide +kernel
theorem dX2_order_32 : decode cX2_order 32 = .ok (.getfield 50, 3) := by decide +kernel
theorem dX2_order_35 : decode cX2_order 35 = .ok (.iconst 0, 1) := by decide +kernel
theorem dX2_order_36 : decode cX2_order 36 = .ok (.iastore, 1) := by decide +kernel
theorem dX2_order_37 : decode cX2_order 37 = .ok (.aload_n 0, 1) := by decide +kernel
theorem dX2_order_38 : decode cX2_order 38 = .ok (.getfield 24, 3) := by decide +kernel
theorem dX2_order_41 : decode cX2_order 41 = .ok (.aload_n 0, 1) := by decide +kernel
theorem dX2_order_42 : decode cX2_order 42 = .ok (.getfield 50, 3) := by decide +kernel
theorem dX2_order_45 : decode cX2_order 45 = .ok (.iconst (-1), 1) := by decide +kernel
theorem dX2_order_46 : decode cX2_order 46 = .ok (.iastore, 1) := by decide +kernel
theorem dX2_order_47 : decode cX2_order 47 = .ok (.aload_n 0, 1) := by decide +kernel
theorem dX2_order_48 : decode cX2_order 48 = .ok (.dup, 1) := by decide +kernel
theorem dX2_order_49 : decode cX2_order 49 = .ok (.getfield 50, 3) := by decide +kernel
theorem dX2_order_52 : decode cX2_order 52 = .ok (.iconst 1, 1) := by decide +kernel
theorem dX2_order_53 : decode cX2_order 53 = .ok (.iadd, 1) := by decide +kernel
theorem dX2_order_54 : decode cX2_order 54 = .ok (.putfield 50, 3) := by decide +kernel
theorem dX2_order_57 : decode cX2_order 57 = .ok (.aload_n 0, 1) := by decide +kernel
theorem dX2_order_58 : decode cX2_order 58 = .ok (.getfield 50, 3) := by decide +kernel
theorem dX2_order_61 : decode cX2_order 61 = .ok (.iconst 1, 1) := by decide +kernel
theorem dX2_order_62 : decode cX2_order 62 = .ok (.isub, 1) := by decide +kernel
theorem dX2_order_63 : decode cX2_order 63 = .ok (.ireturn, 1) := by decide +kernel
theorem dX2_line_0 : decode cX2_line 0 = .ok (.iload_n 2, 1) := by decide +kernel
theorem dX2_line_1 : decode cX2_line 1 = .ok (.bipush 10, 2) := by decide +kernel
theorem dX2_line_3 : decode cX2_line 3 = .ok (.invokestatic 53, 3) := by decide +kernel
theorem dX2_line_6 : decode cX2_line 6 = .ok (.ifCond .eq 18, 3) := by decide +kernel
theorem dX2_line_9 : decode cX2_line 9 = .ok (.iload_n 3, 1) := by decide +kernel
theorem dX2_line_10 : decode cX2_line 10 = .ok (.iconst 1, 1) := by decide +kernel
theorem dX2_line_11 : decode cX2_line 11 = .ok (.if_icmp .lt 13, 3) := by decide +kernel
theorem dX2_line_14 : decode cX2_line 14 = .ok (.iload_n 3, 1) := by decide +kernel
theorem dX2_line_15 : decode cX2_line 15 = .ok (.bipush 9, 2) := by decide +kernel
theorem dX2_line_17 : decode cX2_line 17 = .ok (.if_icmp .gt 7, 3) := by decide +kernel
theorem dX2_line_20 : decode cX2_line 20 = .ok (.iconst 1, 1) := by decide +kernel
theorem dX2_line_21 : decode cX2_line 21 = .ok (.goto 4, 3) := by decide +kernel
theorem dX2_line_24 : decode cX2_line 24 = .ok (.iconst 0, 1) := by decide +kernel
theorem dX2_line_25 : decode cX2_line 25 = .ok (.istore 4, 2) := by decide +kernel
theorem dX2_line_27 : decode cX2_line 27 = .ok (.aload_n 0, 1) := by decide +kernel
theorem dX2_line_28 : decode cX2_line 28 = .ok (.iload_n 1, 1) := by decide +kernel
theorem dX2_line_29 : decode cX2_line 29 = .ok (.aload_n 0, 1) := by decide +kernel
theorem dX2_line_30 : decode cX2_line 30 = .ok (.getfield 50, 3) := by decide +kernel
theorem dX2_line_33 : decode cX2_line 33 = .ok (.invokestatic 53, 3) := by decide +kernel
theorem dX2_line_36 : decode cX2_line 36 = .ok (.ifCond .ne 7, 3) := by decide +kernel
theorem dX2_line_39 : decode cX2_line 39 = .ok (.iconst 1, 1) := by decide +kernel
theorem dX2_line_40 : decode cX2_line 40 = .ok (.goto 35, 3) := by decide +kernel
theorem dX2_line_43 : decode cX2_line 43 = .ok (.iload 4, 2) := by decide +kernel
theorem dX2_line_45 : decode cX2_line 45 = .ok (.ifCond .ne 7, 3) := by decide +kernel
theorem dX2_line_48 : decode cX2_line 48 = .ok (.iconst 2, 1) := by decide +kernel
theorem dX2_line_49 : decode cX2_line 49 = .ok (.goto 26, 3) := by decide +kernel
theorem dX2_line_52 : decode cX2_line 52 = .ok (.aload_n 0, 1) := by decide +kernel
theorem dX2_line_53 : decode cX2_line 53 = .ok (.getfield 21, 3) := by decide +kernel
theorem dX2_line_56 : decode cX2_line 56 = .ok (.iload_n 1, 1) := by decide +kernel
theorem dX2_line_57 : decode cX2_line 57 = .ok (.iaload, 1) := by decide +kernel
theorem dX2_line_58 : decode cX2_line 58 = .ok (.ifCond .ne 12, 3) := by decide +kernel
theorem dX2_line_61 : decode cX2_line 61 = .ok (.aload_n 0, 1) := by decide +kernel
theorem dX2_line_62 : decode cX2_line 62 = .ok (.iload_n 1, 1) := by decide +kernel
theorem dX2_line_63 : decode cX2_line 63 = .ok (.iload_n 2, 1) := by decide +kernel
theorem dX2_line_64 : decode cX2_line 64 = .ok (.invokevirtual 46, 3) := by decide +kernel
theorem dX2_line_67 : decode cX2_line 67 = .ok (.ifCond .eq 7, 3) := by decide +kernel
theorem dX2_line_70 : decode cX2_line 70 = .ok (.iconst 3, 1) := by decide +kernel
theorem dX2_line_71 : decode cX2_line 71 = .ok (.goto 4, 3) := by decide +kernel
theorem dX2_line_74 : decode cX2_line 74 = .ok (.iconst 0, 1) := by decide +kernel
theorem dX2_line_75 : decode cX2_line 75 = .ok (.putfield 43, 3) := by decide +kernel
theorem dX2_line_78 : decode cX2_line 78 = .ok (.aload_n 0, 1) := by decide +kernel
theorem dX2_line_79 : decode cX2_line 79 = .ok (.getfield 43, 3) := by decide +kernel
theorem dX2_line_82 : decode cX2_line 82 = .ok (.ifCond .eq 4, 3) := by decide +kernel
theorem dX2_line_85 : decode cX2_line 85 = .ok (.return_, 1) := by decide +kernel
theorem dX2_line_86 : decode cX2_line 86 = .ok (.aload_n 0, 1) := by decide +kernel
theorem dX2_line_87 : decode cX2_line 87 = .ok (.getfield 27, 3) := by decide +kernel
theorem dX2_line_90 : decode cX2_line 90 = .ok (.bipush 10, 2) := by decide +kernel
theorem dX2_line_92 : decode cX2_line 92 = .ok (.iload_n 1, 1) := by decide +kernel
theorem dX2_line_93 : decode cX2_line 93 = .ok (.imul, 1) := by decide +kernel
theorem dX2_line_94 : decode cX2_line 94 = .ok (.iload_n 2, 1) := by decide +kernel
theorem dX2_line_95 : decode cX2_line 95 = .ok (.iadd, 1) := by decide +kernel
theorem dX2_line_96 : decode cX2_line 96 = .ok (.iload_n 3, 1) := by decide +kernel
theorem dX2_line_97 : decode cX2_line 97 = .ok (.iastore, 1) := by decide +kernel
theorem dX2_line_98 : decode cX2_line 98 = .ok (.aload_n 0, 1) := by decide +kernel
theorem dX2_line_99 : decode cX2_line 99 = .ok (.getfield 30, 3) := by decide +kernel
theorem dX2_line_102 : decode cX2_line 102 = .ok (.bipush 10, 2) := by decide +kernel
theorem dX2_line_104 : decode cX2_line 104 = .ok (.iload_n 1, 1) := by decide +kernel
theorem dX2_line_105 : decode cX2_line 105 = .ok (.imul, 1) := by decide +kernel
theorem dX2_line_106 : decode cX2_line 106 = .ok (.iload_n 2, 1) := by decide +kernel
theorem dX2_line_107 : decode cX2_line 107 = .ok (.iadd, 1) := by decide +kernel
theorem dX2_line_108 : decode cX2_line 108 = .ok (.iconst 0, 1) := by decide +kernel
theorem dX2_line_109 : decode cX2_line 109 = .ok (.iastore, 1) := by decide +kernel
theorem dX2_line_110 : decode cX2_line 110 = .ok (.aload_n 0, 1) := by decide +kernel
theorem dX2_line_111 : decode cX2_line 111 = .ok (.getfield 33, 3) := by decide +kernel
theorem dX2_line_114 : decode cX2_line 114 = .ok (.bipush 10, 2) := by decide +kernel
theorem dX2_line_116 : decode cX2_line 116 = .ok (.iload_n 1, 1) := by decide +kernel
theorem dX2_line_117 : decode cX2_line 117 = .ok (.imul, 1) := by decide +kernel
theorem dX2_line_118 : decode cX2_line 118 = .ok (.iload_n 2, 1) := by decide +kernel
theorem dX2_line_119 : decode cX2_line 119 = .ok (.iadd, 1) := by decide +kernel
theorem dX2_line_120 : decode cX2_line 120 = .ok (.iconst (-1), 1) := by decide +kernel
theorem dX2_line_121 : decode cX2_line 121 = .ok (.iastore, 1) := by decide +kernel
theorem dX2_line_122 : decode cX2_line 122 = .ok (.return_, 1) := by decide +kernel
theorem dX2_cell_0 : decode cX2_cell 0 = .ok (.aload_n 0, 1) := by decide +kernel
theorem dX2_cell_1 : decode cX2_cell 1 = .ok (.iload_n 1, 1) := by decide +kernel
theorem dX2_cell_2 : decode cX2_cell 2 = .ok (.aload_n 0, 1) := by decide +kernel
theorem dX2_cell_3 : decode cX2_cell 3 = .ok (.getfield 50, 3) := by decide +kernel
theorem dX2_cell_6 : decode cX2_cell 6 = .ok (.invokestatic 53, 3) := by decide +kernel
theorem dX2_cell_9 : decode cX2_cell 9 = .ok (.ifCond .ne 7, 3) := by decide +kernel
theorem dX2_cell_12 : decode cX2_cell 12 = .ok (.iconst 1, 1) := by decide +kernel
theorem dX2_cell_13 : decode cX2_cell 13 = .ok (.goto 25, 3) := by decide +kernel
theorem dX2_cell_16 : decode cX2_cell 16 = .ok (.aload_n 0, 1) := by decide +kernel
theorem dX2_cell_17 : decode cX2_cell 17 = .ok (.getfield 21, 3) := by decide +kernel
theorem dX2_cell_20 : decode cX2_cell 20 = .ok (.iload_n 1, 1) := by decide +kernel
theorem dX2_cell_21 : decode cX2_cell 21 = .ok (.iaload, 1) := by decide +kernel
theorem dX2_cell_22 : decode cX2_cell 22 = .ok (.ifCond .ne 11, 3) := by decide +kernel
theorem dX2_cell_25 : decode cX2_cell 25 = .ok (.aload_n 0, 1) := by decide +kernel
theorem dX2_cell_26 : decode cX2_cell 26 = .ok (.iload_n 1, 1) := by decide +kernel
theorem dX2_cell_27 : decode cX2_cell 27 = .ok (.invokevirtual 56, 3) := by decide +kernel
theorem dX2_cell_30 : decode cX2_cell 30 = .ok (.ifCond .ne 7, 3) := by decide +kernel
theorem dX2_cell_33 : decode cX2_cell 33 = .ok (.iconst 2, 1) := by decide +kernel
theorem dX2_cell_34 : decode cX2_cell 34 = .ok (.goto 4, 3) := by decide +kernel
theorem dX2_cell_37 : decode cX2_cell 37 = .ok (.iconst 0, 1) := by decide +kernel
theorem dX2_cell_38 : decode cX2_cell 38 = .ok (.putfield 43, 3) := by decide +kernel
theorem dX2_cell_41 : decode cX2_cell 41 = .ok (.aload_n 0, 1) := by decide +kernel
theorem dX2_cell_42 : decode cX2_cell 42 = .ok (.getfield 43, 3) := by decide +kernel
theorem dX2_cell_45 : decode cX2_cell 45 = .ok (.ifCond .eq 5, 3) := by decide +kernel
theorem dX2_cell_48 : decode cX2_cell 48 = .ok (.iconst 0, 1) := by decide +kernel
theorem dX2_cell_49 : decode cX2_cell 49 = .ok (.ireturn, 1) := by decide +kernel
theorem dX2_cell_50 : decode cX2_cell 50 = .ok (.iconst 0, 1) := by decide +kernel
theorem dX2_cell_51 : decode cX2_cell 51 = .ok (.istore_n 2, 1) := by decide +kernel
theorem dX2_cell_52 : decode cX2_cell 52 = .ok (.iload_n 2, 1) := by decide +kernel
theorem dX2_cell_53 : decode cX2_cell 53 = .ok (.aload_n 0, 1) := by decide +kernel
theorem dX2_cell_54 : decode cX2_cell 54 = .ok (.getfield 39, 3) := by decide +kernel
theorem dX2_cell_57 : decode cX2_cell 57 = .ok (.if_icmp .ge 43, 3) := by decide +kernel
theorem dX2_cell_60 : decode cX2_cell 60 = .ok (.aload_n 0, 1) := by decide +kernel
theorem dX2_cell_61 : decode cX2_cell 61 = .ok (.getfield 7, 3) := by decide +kernel
theorem dX2_cell_64 : decode cX2_cell 64 = .ok (.iload_n 2, 1) := by decide +kernel
theorem dX2_cell_65 : decode cX2_cell 65 = .ok (.baload, 1) := by decide +kernel
theorem dX2_cell_66 : decode cX2_cell 66 = .ok (.ifCond .ne 28, 3) := by decide +kernel
theorem dX2_cell_69 : decode cX2_cell 69 = .ok (.aload_n 0, 1) := by decide +kernel
theorem dX2_cell_70 : decode cX2_cell 70 = .ok (.iload_n 2, 1) := by decide +kernel
theorem dX2_cell_71 : decode cX2_cell 71 = .ok (.invokevirtual 60, 3) := by decide +kernel
theorem dX2_cell_74 : decode cX2_cell 74 = .ok (.iconst (-1), 1) := by decide +kernel
theorem dX2_cell_75 : decode cX2_cell 75 = .ok (.if_icmp .ne 19, 3) := by decide +kernel
theorem dX2_cell_78 : decode cX2_cell 78 = .ok (.aload_n 0, 1) := by decide +kernel
theorem dX2_cell_79 : decode cX2_cell 79 = .ok (.getfield 24, 3) := by decide +kernel
theorem dX2_cell_82 : decode cX2_cell 82 = .ok (.iload_n 1, 1) := by decide +kernel
theorem dX2_cell_83 : decode cX2_cell 83 = .ok (.iload_n 2, 1) := by decide +kernel
theorem dX2_cell_84 : decode cX2_cell 84 = .ok (.iastore, 1) := by decide +kernel
theorem dX2_cell_85 : decode cX2_cell 85 = .ok (.aload_n 0, 1) := by decide +kernel
theorem dX2_cell_86 : decode cX2_cell 86 = .ok (.getfield 21, 3) := by decide +kernel
theorem dX2_cell_89 : decode cX2_cell 89 = .ok (.iload_n 1, 1) := by decide +kernel
theorem dX2_cell_90 : decode cX2_cell 90 = .ok (.iconst 1, 1) := by decide +kernel
theorem dX2_cell_91 : decode cX2_cell 91 = .ok (.iastore, 1) := by decide +kernel
theorem dX2_cell_92 : decode cX2_cell 92 = .ok (.iload_n 2, 1) := by decide +kernel
theorem dX2_cell_93 : decode cX2_cell 93 = .ok (.ireturn, 1) := by decide +kernel
theorem dX2_cell_94 : decode cX2_cell 94 = .ok (.iinc 2 1, 3) := by decide +kernel
theorem dX2_cell_97 : decode cX2_cell 97 = .ok (.goto (-45), 3) := by decide +kernel
theorem dX2_cell_100 : decode cX2_cell 100 = .ok (.iconst (-1), 1) := by decide +kernel
theorem dX2_cell_101 : decode cX2_cell 101 = .ok (.ireturn, 1) := by decide +kernel
theorem dX2_light_0 : decode cX2_light 0 = .ok (.aload_n 0, 1) := by decide +kernel
theorem dX2_light_1 : decode cX2_light 1 = .ok (.iload_n 1, 1) := by decide +kernel
theorem dX2_light_2 : decode cX2_light 2 = .ok (.aload_n 0, 1) := by decide +kernel
theorem dX2_light_3 : decode cX2_light 3 = .ok (.getfield 39, 3) := by decide +kernel
theorem dX2_light_6 : decode cX2_light 6 = .ok (.invokestatic 53, 3) := by decide +kernel
theorem dX2_light_9 : decode cX2_light 9 = .ok (.ifCond .eq 7, 3) := by decide +kernel
theorem dX2_light_12 : decode cX2_light 12 = .ok (.iconst 0, 1) := by decide +kernel
theorem dX2_light_13 : decode cX2_light 13 = .ok (.goto 4, 3) := by decide +kernel
theorem dX2_light_16 : decode cX2_light 16 = .ok (.iconst 1, 1) := by decide +kernel
theorem dX2_light_17 : decode cX2_light 17 = .ok (.putfield 43, 3) := by decide +kernel
theorem dX2_light_20 : decode cX2_light 20 = .ok (.aload_n 0, 1) := by decide +kernel
theorem dX2_light_21 : decode cX2_light 21 = .ok (.getfield 43, 3) := by decide +kernel
theorem dX2_light_24 : decode cX2_light 24 = .ok (.ifCond .eq 5, 3) := by decide +kernel
theorem dX2_light_27 : decode cX2_light 27 = .ok (.iconst 0, 1) := by decide +kernel
theorem dX2_light_28 : decode cX2_light 28 = .ok (.ireturn, 1) := by decide +kernel
theorem dX2_light_29 : decode cX2_light 29 = .ok (.aload_n 0, 1) := by decide +kernel
theorem dX2_light_30 : decode cX2_light 30 = .ok (.getfield 7, 3) := by decide +kernel
theorem dX2_light_33 : decode cX2_light 33 = .ok (.iload_n 1, 1) := by decide +kernel
theorem dX2_light_34 : decode cX2_light 34 = .ok (.baload, 1) := by decide +kernel
theorem dX2_light_35 : decode cX2_light 35 = .ok (.ifCond .ne 7, 3) := by decide +kernel
theorem dX2_light_38 : decode cX2_light 38 = .ok (.iconst 1, 1) := by decide +kernel
theorem dX2_light_39 : decode cX2_light 39 = .ok (.goto 4, 3) := by decide +kernel
theorem dX2_light_42 : decode cX2_light 42 = .ok (.iconst 0, 1) := by decide +kernel
theorem dX2_light_43 : decode cX2_light 43 = .ok (.istore_n 3, 1) := by decide +kernel
theorem dX2_light_44 : decode cX2_light 44 = .ok (.aload_n 0, 1) := by decide +kernel
theorem dX2_light_45 : decode cX2_light 45 = .ok (.getfield 7, 3) := by decide +kernel
theorem dX2_light_48 : decode cX2_light 48 = .ok (.iload_n 1, 1) := by decide +kernel
theorem dX2_light_49 : decode cX2_light 49 = .ok (.iload_n 2, 1) := by decide +kernel
theorem dX2_light_50 : decode cX2_light 50 = .ok (.ifCond .ne 7, 3) := by decide +kernel
theorem dX2_light_53 : decode cX2_light 53 = .ok (.iconst 1, 1) := by decide +kernel
theorem dX2_light_54 : decode cX2_light 54 = .ok (.goto 4, 3) := by decide +kernel
theorem dX2_light_57 : decode cX2_light 57 = .ok (.iconst 0, 1) := by decide +kernel
theorem dX2_light_58 : decode cX2_light 58 = .ok (.bastore, 1) := by decide +kernel
theorem dX2_light_59 : decode cX2_light 59 = .ok (.iload_n 3, 1) := by decide +kernel
theorem dX2_light_60 : decode cX2_light 60 = .ok (.ireturn, 1) := by decide +kernel
theorem dX2_reason_0 : decode cX2_reason 0 = .ok (.aload_n 0, 1) := by decide +kernel
theorem dX2_reason_1 : decode cX2_reason 1 = .ok (.iload_n 1, 1) := by decide +kernel
theorem dX2_reason_2 : decode cX2_reason 2 = .ok (.invokevirtual 60, 3) := by decide +kernel
theorem dX2_reason_5 : decode cX2_reason 5 = .ok (.istore_n 3, 1) := by decide +kernel
theorem dX2_reason_6 : decode cX2_reason 6 = .ok (.iload_n 3, 1) := by decide +kernel
theorem dX2_reason_7 : decode cX2_reason 7 = .ok (.iconst (-1), 1) := by decide +kernel
theorem dX2_reason_8 : decode cX2_reason 8 = .ok (.if_icmp .ne 5, 3) := by decide +kernel
theorem dX2_reason_11 : decode cX2_reason 11 = .ok (.iconst (-1), 1) := by decide +kernel
theorem dX2_reason_12 : decode cX2_reason 12 = .ok (.ireturn, 1) := by decide +kernel
theorem dX2_reason_13 : decode cX2_reason 13 = .ok (.aload_n 0, 1) := by decide +kernel
theorem dX2_reason_14 : decode cX2_reason 14 = .ok (.getfield 7, 3) := by decide +kernel
theorem dX2_reason_17 : decode cX2_reason 17 = .ok (.iload_n 1, 1) := by decide +kernel
theorem dX2_reason_18 : decode cX2_reason 18 = .ok (.baload, 1) := by decide +kernel
theorem dX2_reason_19 : decode cX2_reason 19 = .ok (.ifCond .eq 6, 3) := by decide +kernel
theorem dX2_reason_22 : decode cX2_reason 22 = .ok (.bipush (-2), 2) := by decide +kernel
theorem dX2_reason_24 : decode cX2_reason 24 = .ok (.ireturn, 1) := by decide +kernel
theorem dX2_reason_25 : decode cX2_reason 25 = .ok (.aload_n 0, 1) := by decide +kernel
theorem dX2_reason_26 : decode cX2_reason 26 = .ok (.iload_n 3, 1) := by decide +kernel
theorem dX2_reason_27 : decode cX2_reason 27 = .ok (.iload_n 2, 1) := by decide +kernel
theorem dX2_reason_28 : decode cX2_reason 28 = .ok (.invokevirtual 46, 3) := by decide +kernel
theorem dX2_reason_31 : decode cX2_reason 31 = .ok (.ifCond .ne 6, 3) := by decide +kernel
theorem dX2_reason_34 : decode cX2_reason 34 = .ok (.bipush (-3), 2) := by decide +kernel
theorem dX2_reason_36 : decode cX2_reason 36 = .ok (.ireturn, 1) := by decide +kernel
theorem dX2_reason_37 : decode cX2_reason 37 = .ok (.aload_n 0, 1) := by decide +kernel
theorem dX2_reason_38 : decode cX2_reason 38 = .ok (.getfield 30, 3) := by decide +kernel
theorem dX2_reason_41 : decode cX2_reason 41 = .ok (.bipush 10, 2) := by decide +kernel
theorem dX2_reason_43 : decode cX2_reason 43 = .ok (.iload_n 3, 1) := by decide +kernel
theorem dX2_reason_44 : decode cX2_reason 44 = .ok (.imul, 1) := by decide +kernel
theorem dX2_reason_45 : decode cX2_reason 45 = .ok (.iload_n 2, 1) := by decide +kernel
theorem dX2_reason_46 : decode cX2_reason 46 = .ok (.iadd, 1) := by decide +kernel
theorem dX2_reason_47 : decode cX2_reason 47 = .ok (.iaload, 1) := by decide +kernel
theorem dX2_reason_48 : decode cX2_reason 48 = .ok (.aload_n 0, 1) := by decide +kernel
theorem dX2_reason_49 : decode cX2_reason 49 = .ok (.getfield 27, 3) := by decide +kernel
theorem dX2_reason_52 : decode cX2_reason 52 = .ok (.bipush 10, 2) := by decide +kernel
theorem dX2_reason_54 : decode cX2_reason 54 = .ok (.iload_n 3, 1) := by decide +kernel
theorem dX2_reason_55 : decode cX2_reason 55 = .ok (.imul, 1) := by decide +kernel
theorem dX2_reason_56 : decode cX2_reason 56 = .ok (.iload_n 2, 1) := by decide +kernel
theorem dX2_reason_57 : decode cX2_reason 57 = .ok (.iadd, 1) := by decide +kernel
theorem dX2_reason_58 : decode cX2_reason 58 = .ok (.iaload, 1) := by decide +kernel
theorem dX2_reason_59 : decode cX2_reason 59 = .ok (.if_icmp .eq 13, 3) := by decide +kernel
theorem dX2_reason_62 : decode cX2_reason 62 = .ok (.aload_n 0, 1) := by decide +kernel
theorem dX2_reason_63 : decode cX2_reason 63 = .ok (.getfield 21, 3) := by decide +kernel
theorem dX2_reason_66 : decode cX2_reason 66 = .ok (.iload_n 3, 1) := by decide +kernel
theorem dX2_reason_67 : decode cX2_reason 67 = .ok (.iaload, 1) := by decide +kernel
theorem dX2_reason_68 : decode cX2_reason 68 = .ok (.iconst 2, 1) := by decide +kernel
theorem dX2_reason_69 : decode cX2_reason 69 = .ok (.if_icmp .ne 6, 3) := by decide +kernel
theorem dX2_reason_72 : decode cX2_reason 72 = .ok (.bipush (-4), 2) := by decide +kernel
theorem dX2_reason_74 : decode cX2_reason 74 = .ok (.ireturn, 1) := by decide +kernel
theorem dX2_reason_75 : decode cX2_reason 75 = .ok (.aload_n 0, 1) := by decide +kernel
theorem dX2_reason_76 : decode cX2_reason 76 = .ok (.getfield 13, 3) := by decide +kernel
theorem dX2_reason_79 : decode cX2_reason 79 = .ok (.iload_n 2, 1) := by decide +kernel
theorem dX2_reason_80 : decode cX2_reason 80 = .ok (.iaload, 1) := by decide +kernel
theorem dX2_reason_81 : decode cX2_reason 81 = .ok (.ifCond .ne 8, 3) := by decide +kernel
theorem dX2_reason_84 : decode cX2_reason 84 = .ok (.bipush (-5), 2) := by decide +kernel
theorem dX2_reason_86 : decode cX2_reason 86 = .ok (.goto 4, 3) := by decide +kernel
theorem dX2_reason_89 : decode cX2_reason 89 = .ok (.iconst 0, 1) := by decide +kernel
theorem dX2_reason_90 : decode cX2_reason 90 = .ok (.ireturn, 1) := by decide +kernel
theorem dX2_scan_0 : decode cX2_scan 0 = .ok (.aload_n 0, 1) := by decide +kernel
theorem dX2_scan_1 : decode cX2_scan 1 = .ok (.iload_n 1, 1) := by decide +kernel
theorem dX2_scan_2 : decode cX2_scan 2 = .ok (.aload_n 0, 1) := by decide +kernel
theorem dX2_scan_3 : decode cX2_scan 3 = .ok (.getfield 39, 3) := by decide +kernel
theorem dX2_scan_6 : decode cX2_scan 6 = .ok (.invokestatic 53, 3) := by decide +kernel
theorem dX2_scan_9 : decode cX2_scan 9 = .ok (.ifCond .ne 7, 3) := by decide +kernel
theorem dX2_scan_12 : decode cX2_scan 12 = .ok (.iconst 1, 1) := by decide +kernel
theorem dX2_scan_13 : decode cX2_scan 13 = .ok (.goto 26, 3) := by decide +kernel
theorem dX2_scan_16 : decode cX2_scan 16 = .ok (.iload_n 2, 1) := by decide +kernel
theorem dX2_scan_17 : decode cX2_scan 17 = .ok (.bipush 10, 2) := by decide +kernel
theorem dX2_scan_19 : decode cX2_scan 19 = .ok (.invokestatic 53, 3) := by decide +kernel
theorem dX2_scan_22 : decode cX2_scan 22 = .ok (.ifCond .eq 12, 3) := by decide +kernel
theorem dX2_scan_25 : decode cX2_scan 25 = .ok (.iload_n 3, 1) := by decide +kernel
theorem dX2_scan_26 : decode cX2_scan 26 = .ok (.bipush 8, 2) := by decide +kernel
theorem dX2_scan_28 : decode cX2_scan 28 = .ok (.invokestatic 53, 3) := by decide +kernel
theorem dX2_scan_31 : decode cX2_scan 31 = .ok (.ifCond .ne 7, 3) := by decide +kernel
theorem dX2_scan_34 : decode cX2_scan 34 = .ok (.iconst 2, 1) := by decide +kernel
theorem dX2_scan_35 : decode cX2_scan 35 = .ok (.goto 4, 3) := by decide +kernel
theorem dX2_scan_38 : decode cX2_scan 38 = .ok (.iconst 0, 1) := by decide +kernel
theorem dX2_scan_39 : decode cX2_scan 39 = .ok (.putfield 43, 3) := by decide +kernel
theorem dX2_scan_42 : decode cX2_scan 42 = .ok (.aload_n 0, 1) := by decide +kernel
theorem dX2_scan_43 : decode cX2_scan 43 = .ok (.getfield 43, 3) := by decide +kernel
theorem dX2_scan_46 : decode cX2_scan 46 = .ok (.ifCond .eq 5, 3) := by decide +kernel
theorem dX2_scan_49 : decode cX2_scan 49 = .ok (.iconst 0, 1) := by decide +kernel
theorem dX2_scan_50 : decode cX2_scan 50 = .ok (.ireturn, 1) := by decide +kernel
theorem dX2_scan_51 : decode cX2_scan 51 = .ok (.aload_n 0, 1) := by decide +kernel
theorem dX2_scan_52 : decode cX2_scan 52 = .ok (.iload_n 1, 1) := by decide +kernel
theorem dX2_scan_53 : decode cX2_scan 53 = .ok (.iload_n 2, 1) := by decide +kernel
theorem dX2_scan_54 : decode cX2_scan 54 = .ok (.invokevirtual 63, 3) := by decide +kernel
theorem dX2_scan_57 : decode cX2_scan 57 = .ok (.istore 4, 2) := by decide +kernel
theorem dX2_scan_59 : decode cX2_scan 59 = .ok (.iload 4, 2) := by decide +kernel
theorem dX2_scan_61 : decode cX2_scan 61 = .ok (.ifCond .eq 16, 3) := by decide +kernel
theorem dX2_scan_64 : decode cX2_scan 64 = .ok (.aload_n 0, 1) := by decide +kernel
theorem dX2_scan_65 : decode cX2_scan 65 = .ok (.getfield 36, 3) := by decide +kernel
theorem dX2_scan_68 : decode cX2_scan 68 = .ok (.iload_n 3, 1) := by decide +kernel
theorem dX2_scan_69 : decode cX2_scan 69 = .ok (.dup2, 1) := by decide +kernel
theorem dX2_scan_70 : decode cX2_scan 70 = .ok (.iaload, 1) := by decide +kernel
theorem dX2_scan_71 : decode cX2_scan 71 = .ok (.iconst 1, 1) := by decide +kernel
theorem dX2_scan_72 : decode cX2_scan 72 = .ok (.iadd, 1) := by decide +kernel
theorem dX2_scan_73 : decode cX2_scan 73 = .ok (.iastore, 1) := by decide +kernel
theorem dX2_scan_74 : decode cX2_scan 74 = .ok (.iload 4, 2) := by decide +kernel
theorem dX2_scan_76 : decode cX2_scan 76 = .ok (.ireturn, 1) := by decide +kernel
theorem dX2_scan_77 : decode cX2_scan 77 = .ok (.aload_n 0, 1) := by decide +kernel
theorem dX2_scan_78 : decode cX2_scan 78 = .ok (.getfield 30, 3) := by decide +kernel
theorem dX2_scan_81 : decode cX2_scan 81 = .ok (.bipush 10, 2) := by decide +kernel
theorem dX2_scan_83 : decode cX2_scan 83 = .ok (.aload_n 0, 1) := by decide +kernel
theorem dX2_scan_84 : decode cX2_scan 84 = .ok (.iload_n 1, 1) := by decide +kernel
theorem dX2_scan_85 : decode cX2_scan 85 = .ok (.invokevirtual 60, 3) := by decide +kernel
theorem dX2_scan_88 : decode cX2_scan 88 = .ok (.imul, 1) := by decide +kernel
theorem dX2_scan_89 : decode cX2_scan 89 = .ok (.iload_n 2, 1) := by decide +kernel
theorem dX2_scan_90 : decode cX2_scan 90 = .ok (.iadd, 1) := by decide +kernel
theorem dX2_scan_91 : decode cX2_scan 91 = .ok (.dup2, 1) := by decide +kernel
theorem dX2_scan_92 : decode cX2_scan 92 = .ok (.iaload, 1) := by decide +kernel
theorem dX2_scan_93 : decode cX2_scan 93 = .ok (.iconst 1, 1) := by decide +kernel
theorem dX2_scan_94 : decode cX2_scan 94 = .ok (.iadd, 1) := by decide +kernel
theorem dX2_scan_95 : decode cX2_scan 95 = .ok (.iastore, 1) := by decide +kernel
theorem dX2_scan_96 : decode cX2_scan 96 = .ok (.aload_n 0, 1) := by decide +kernel
theorem dX2_scan_97 : decode cX2_scan 97 = .ok (.getfield 13, 3) := by decide +kernel
theorem dX2_scan_100 : decode cX2_scan 100 = .ok (.iload_n 2, 1) := by decide +kernel
theorem dX2_scan_101 : decode cX2_scan 101 = .ok (.dup2, 1) := by decide +kernel
theorem dX2_scan_102 : decode cX2_scan 102 = .ok (.iaload, 1) := by decide +kernel
theorem dX2_scan_103 : decode cX2_scan 103 = .ok (.iconst 1, 1) := by decide +kernel
theorem dX2_scan_104 : decode cX2_scan 104 = .ok (.isub, 1) := by decide +kernel
theorem dX2_scan_105 : decode cX2_scan 105 = .ok (.iastore, 1) := by decide +kernel
theorem dX2_scan_106 : decode cX2_scan 106 = .ok (.iconst 1, 1) := by decide +kernel
theorem dX2_scan_107 : decode cX2_scan 107 = .ok (.ireturn, 1) := by decide +kernel
theorem dX2_undo_0 : decode cX2_undo 0 = .ok (.aload_n 0, 1) := by decide +kernel
theorem dX2_undo_1 : decode cX2_undo 1 = .ok (.iload_n 1, 1) := by decide +kernel
theorem dX2_undo_2 : decode cX2_undo 2 = .ok (.aload_n 0, 1) := by decide +kernel
theorem dX2_undo_3 : decode cX2_undo 3 = .ok (.getfield 39, 3) := by decide +kernel
theorem dX2_undo_6 : decode cX2_undo 6 = .ok (.invokestatic 53, 3) := by decide +kernel
theorem dX2_undo_9 : decode cX2_undo 9 = .ok (.ifCond .ne 7, 3) := by decide +kernel
theorem dX2_undo_12 : decode cX2_undo 12 = .ok (.iconst 1, 1) := by decide +kernel
theorem dX2_undo_13 : decode cX2_undo 13 = .ok (.goto 17, 3) := by decide +kernel
theorem dX2_undo_16 : decode cX2_undo 16 = .ok (.iload_n 2, 1) := by decide +kernel
theorem dX2_undo_17 : decode cX2_undo 17 = .ok (.bipush 10, 2) := by decide +kernel
theorem dX2_undo_19 : decode cX2_undo 19 = .ok (.invokestatic 53, 3) := by decide +kernel
theorem dX2_undo_22 : decode cX2_undo 22 = .ok (.ifCond .ne 7, 3) := by decide +kernel
theorem dX2_undo_25 : decode cX2_undo 25 = .ok (.iconst 2, 1) := by decide +kernel
theorem dX2_undo_26 : decode cX2_undo 26 = .ok (.goto 4, 3) := by decide +kernel
theorem dX2_undo_29 : decode cX2_undo 29 = .ok (.iconst 0, 1) := by decide +kernel
theorem dX2_undo_30 : decode cX2_undo 30 = .ok (.putfield 43, 3) := by decide +kernel
theorem dX2_undo_33 : decode cX2_undo 33 = .ok (.aload_n 0, 1) := by decide +kernel
theorem dX2_undo_34 : decode cX2_undo 34 = .ok (.getfield 43, 3) := by decide +kernel
theorem dX2_undo_37 : decode cX2_undo 37 = .ok (.ifCond .eq 5, 3) := by decide +kernel
theorem dX2_undo_40 : decode cX2_undo 40 = .ok (.iconst 0, 1) := by decide +kernel
theorem dX2_undo_41 : decode cX2_undo 41 = .ok (.ireturn, 1) := by decide +kernel
theorem dX2_undo_42 : decode cX2_undo 42 = .ok (.aload_n 0, 1) := by decide +kernel
theorem dX2_undo_43 : decode cX2_undo 43 = .ok (.iload_n 1, 1) := by decide +kernel
theorem dX2_undo_44 : decode cX2_undo 44 = .ok (.invokevirtual 60, 3) := by decide +kernel
theorem dX2_undo_47 : decode cX2_undo 47 = .ok (.istore_n 3, 1) := by decide +kernel
theorem dX2_undo_48 : decode cX2_undo 48 = .ok (.aload_n 0, 1) := by decide +kernel
theorem dX2_undo_49 : decode cX2_undo 49 = .ok (.iload_n 3, 1) := by decide +kernel
theorem dX2_undo_50 : decode cX2_undo 50 = .ok (.iconst (-1), 1) := by decide +kernel
theorem dX2_undo_51 : decode cX2_undo 51 = .ok (.if_icmp .eq 27, 3) := by decide +kernel
theorem dX2_undo_54 : decode cX2_undo 54 = .ok (.aload_n 0, 1) := by decide +kernel
theorem dX2_undo_55 : decode cX2_undo 55 = .ok (.getfield 21, 3) := by decide +kernel
theorem dX2_undo_58 : decode cX2_undo 58 = .ok (.iload_n 3, 1) := by decide +kernel
theorem dX2_undo_59 : decode cX2_undo 59 = .ok (.iaload, 1) := by decide +kernel
theorem dX2_undo_60 : decode cX2_undo 60 = .ok (.iconst 2, 1) := by decide +kernel
theorem dX2_undo_61 : decode cX2_undo 61 = .ok (.if_icmp .eq 17, 3) := by decide +kernel
theorem dX2_undo_64 : decode cX2_undo 64 = .ok (.aload_n 0, 1) := by decide +kernel
theorem dX2_undo_65 : decode cX2_undo 65 = .ok (.getfield 30, 3) := by decide +kernel
theorem dX2_undo_68 : decode cX2_undo 68 = .ok (.bipush 10, 2) := by decide +kernel
theorem dX2_undo_70 : decode cX2_undo 70 = .ok (.iload_n 3, 1) := by decide +kernel
theorem dX2_undo_71 : decode cX2_undo 71 = .ok (.imul, 1) := by decide +kernel
theorem dX2_undo_72 : decode cX2_undo 72 = .ok (.iload_n 2, 1) := by decide +kernel
theorem dX2_undo_73 : decode cX2_undo 73 = .ok (.iadd, 1) := by decide +kernel
theorem dX2_undo_74 : decode cX2_undo 74 = .ok (.iaload, 1) := by decide +kernel
theorem dX2_undo_75 : decode cX2_undo 75 = .ok (.ifCond .ne 7, 3) := by decide +kernel
theorem dX2_undo_78 : decode cX2_undo 78 = .ok (.iconst 3, 1) := by decide +kernel
theorem dX2_undo_79 : decode cX2_undo 79 = .ok (.goto 4, 3) := by decide +kernel
theorem dX2_undo_82 : decode cX2_undo 82 = .ok (.iconst 0, 1) := by decide +kernel
theorem dX2_undo_83 : decode cX2_undo 83 = .ok (.putfield 43, 3) := by decide +kernel
theorem dX2_undo_86 : decode cX2_undo 86 = .ok (.aload_n 0, 1) := by decide +kernel
theorem dX2_undo_87 : decode cX2_undo 87 = .ok (.getfield 43, 3) := by decide +kernel
theorem dX2_undo_90 : decode cX2_undo 90 = .ok (.ifCond .eq 5, 3) := by decide +kernel
theorem dX2_undo_93 : decode cX2_undo 93 = .ok (.iconst 0, 1) := by decide +kernel
theorem dX2_undo_94 : decode cX2_undo 94 = .ok (.ireturn, 1) := by decide +kernel
theorem dX2_undo_95 : decode cX2_undo 95 = .ok (.aload_n 0, 1) := by decide +kernel
theorem dX2_undo_96 : decode cX2_undo 96 = .ok (.getfield 30, 3) := by decide +kernel
theorem dX2_undo_99 : decode cX2_undo 99 = .ok (.bipush 10, 2) := by decide +kernel
theorem dX2_undo_101 : decode cX2_undo 101 = .ok (.iload_n 3, 1) := by decide +kernel
theorem dX2_undo_102 : decode cX2_undo 102 = .ok (.imul, 1) := by decide +kernel
theorem dX2_undo_103 : decode cX2_undo 103 = .ok (.iload_n 2, 1) := by decide +kernel
theorem dX2_undo_104 : decode cX2_undo 104 = .ok (.iadd, 1) := by decide +kernel
theorem dX2_undo_105 : decode cX2_undo 105 = .ok (.dup2, 1) := by decide +kernel
theorem dX2_undo_106 : decode cX2_undo 106 = .ok (.iaload, 1) := by decide +kernel
theorem dX2_undo_107 : decode cX2_undo 107 = .ok (.iconst 1, 1) := by decide +kernel
theorem dX2_undo_108 : decode cX2_undo 108 = .ok (.isub, 1) := by decide +kernel
theorem dX2_undo_109 : decode cX2_undo 109 = .ok (.iastore, 1) := by decide +kernel
theorem dX2_undo_110 : decode cX2_undo 110 = .ok (.aload_n 0, 1) := by decide +kernel
theorem dX2_undo_111 : decode cX2_undo 111 = .ok (.getfield 13, 3) := by decide +kernel
theorem dX2_undo_114 : decode cX2_undo 114 = .ok (.iload_n 2, 1) := by decide +kernel
theorem dX2_undo_115 : decode cX2_undo 115 = .ok (.dup2, 1) := by decide +kernel
theorem dX2_undo_116 : decode cX2_undo 116 = .ok (.iaload, 1) := by decide +kernel
theorem dX2_undo_117 : decode cX2_undo 117 = .ok (.iconst 1, 1) := by decide +kernel
theorem dX2_undo_118 : decode cX2_undo 118 = .ok (.iadd, 1) := by decide +kernel
theorem dX2_undo_119 : decode cX2_undo 119 = .ok (.iastore, 1) := by decide +kernel
theorem dX2_undo_120 : decode cX2_undo 120 = .ok (.aload_n 0, 1) := by decide +kernel
theorem dX2_undo_121 : decode cX2_undo 121 = .ok (.getfield 30, 3) := by decide +kernel
theorem dX2_undo_124 : decode cX2_undo 124 = .ok (.bipush 10, 2) := by decide +kernel
theorem dX2_undo_126 : decode cX2_undo 126 = .ok (.iload_n 3, 1) := by decide +kernel
theorem dX2_undo_127 : decode cX2_undo 127 = .ok (.imul, 1) := by decide +kernel
theorem dX2_undo_128 : decode cX2_undo 128 = .ok (.iload_n 2, 1) := by decide +kernel
theorem dX2_undo_129 : decode cX2_undo 129 = .ok (.iadd, 1) := by decide +kernel
theorem dX2_undo_130 : decode cX2_undo 130 = .ok (.iaload, 1) := by decide +kernel
theorem dX2_undo_131 : decode cX2_undo 131 = .ok (.ireturn, 1) := by decide +kernel
theorem dX2_lineRefusal_0 : decode cX2_lineRefusal 0 = .ok (.iload_n 1, 1) := by decide +kernel
theorem dX2_lineRefusal_1 : decode cX2_lineRefusal 1 = .ok (.aload_n 0, 1) := by decide +kernel
theorem dX2_lineRefusal_2 : decode cX2_lineRefusal 2 = .ok (.getfield 50, 3) := by decide +kernel
theorem dX2_lineRefusal_5 : decode cX2_lineRefusal 5 = .ok (.invokestatic 53, 3) := by decide +kernel
theorem dX2_lineRefusal_8 : decode cX2_lineRefusal 8 = .ok (.ifCond .ne 5, 3) := by decide +kernel
theorem dX2_lineRefusal_11 : decode cX2_lineRefusal 11 = .ok (.iconst 1, 1) := by decide +kernel
theorem dX2_lineRefusal_12 : decode cX2_lineRefusal 12 = .ok (.ireturn, 1) := by decide +kernel
theorem dX2_lineRefusal_13 : decode cX2_lineRefusal 13 = .ok (.iload_n 2, 1) := by decide +kernel
theorem dX2_lineRefusal_14 : decode cX2_lineRefusal 14 = .ok (.bipush 10, 2) := by decide +kernel
theorem dX2_lineRefusal_16 : decode cX2_lineRefusal 16 = .ok (.invokestatic 53, 3) := by decide +kernel
theorem dX2_lineRefusal_19 : decode cX2_lineRefusal 19 = .ok (.ifCond .ne 5, 3) := by decide +kernel
theorem dX2_lineRefusal_22 : decode cX2_lineRefusal 22 = .ok (.iconst 2, 1) := by decide +kernel
theorem dX2_lineRefusal_23 : decode cX2_lineRefusal 23 = .ok (.ireturn, 1) := by decide +kernel
theorem dX2_lineRefusal_24 : decode cX2_lineRefusal 24 = .ok (.aload_n 0, 1) := by decide +kernel
theorem dX2_lineRefusal_25 : decode cX2_lineRefusal 25 = .ok (.iload_n 1, 1) := by decide +kernel
theorem dX2_lineRefusal_26 : decode cX2_lineRefusal 26 = .ok (.iload_n 2, 1) := by decide +kernel
theorem dX2_lineRefusal_27 : decode cX2_lineRefusal 27 = .ok (.invokevirtual 46, 3) := by decide +kernel
theorem dX2_lineRefusal_30 : decode cX2_lineRefusal 30 = .ok (.ifCond .eq 7, 3) := by decide +kernel
theorem dX2_lineRefusal_33 : decode cX2_lineRefusal 33 = .ok (.iconst 0, 1) := by decide +kernel
theorem dX2_lineRefusal_34 : decode cX2_lineRefusal 34 = .ok (.goto 4, 3) := by decide +kernel
theorem dX2_lineRefusal_37 : decode cX2_lineRefusal 37 = .ok (.iconst 1, 1) := by decide +kernel
theorem dX2_lineRefusal_38 : decode cX2_lineRefusal 38 = .ok (.ireturn, 1) := by decide +kernel
theorem dX2_missing_0 : decode cX2_missing 0 = .ok (.aload_n 0, 1) := by decide +kernel
theorem dX2_missing_1 : decode cX2_missing 1 = .ok (.getfield 27, 3) := by decide +kernel
theorem dX2_missing_4 : decode cX2_missing 4 = .ok (.bipush 10, 2) := by decide +kernel
theorem dX2_missing_6 : decode cX2_missing 6 = .ok (.iload_n 1, 1) := by decide +kernel
theorem dX2_missing_7 : decode cX2_missing 7 = .ok (.imul, 1) := by decide +kernel
theorem dX2_missing_8 : decode cX2_missing 8 = .ok (.iload_n 2, 1) := by decide +kernel
theorem dX2_missing_9 : decode cX2_missing 9 = .ok (.iadd, 1) := by decide +kernel
theorem dX2_missing_10 : decode cX2_missing 10 = .ok (.iaload, 1) := by decide +kernel
theorem dX2_missing_11 : decode cX2_missing 11 = .ok (.aload_n 0, 1) := by decide +kernel
theorem dX2_missing_12 : decode cX2_missing 12 = .ok (.getfield 30, 3) := by decide +kernel
theorem dX2_missing_15 : decode cX2_missing 15 = .ok (.bipush 10, 2) := by decide +kernel
theorem dX2_missing_17 : decode cX2_missing 17 = .ok (.iload_n 1, 1) := by decide +kernel
theorem dX2_missing_18 : decode cX2_missing 18 = .ok (.imul, 1) := by decide +kernel
theorem dX2_missing_19 : decode cX2_missing 19 = .ok (.iload_n 2, 1) := by decide +kernel
theorem dX2_missing_20 : decode cX2_missing 20 = .ok (.iadd, 1) := by decide +kernel
theorem dX2_missing_21 : decode cX2_missing 21 = .ok (.iaload, 1) := by decide +kernel
theorem dX2_missing_22 : decode cX2_missing 22 = .ok (.isub, 1) := by decide +kernel
theorem dX2_missing_23 : decode cX2_missing 23 = .ok (.ireturn, 1) := by decide +kernel
theorem dX2_miss_0 : decode cX2_miss 0 = .ok (.aload_n 0, 1) := by decide +kernel
theorem dX2_miss_1 : decode cX2_miss 1 = .ok (.aload_n 0, 1) := by decide +kernel
theorem dX2_miss_2 : decode cX2_miss 2 = .ok (.iload_n 1, 1) := by decide +kernel
theorem dX2_miss_3 : decode cX2_miss 3 = .ok (.iload_n 2, 1) := by decide +kernel
theorem dX2_miss_4 : decode cX2_miss 4 = .ok (.invokevirtual 67, 3) := by decide +kernel
theorem dX2_miss_7 : decode cX2_miss 7 = .ok (.putfield 43, 3) := by decide +kernel
theorem dX2_miss_10 : decode cX2_miss 10 = .ok (.aload_n 0, 1) := by decide +kernel
theorem dX2_miss_11 : decode cX2_miss 11 = .ok (.getfield 43, 3) := by decide +kernel
theorem dX2_miss_14 : decode cX2_miss 14 = .ok (.ifCond .ne 19, 3) := by decide +kernel
theorem dX2_miss_17 : decode cX2_miss 17 = .ok (.iload_n 3, 1) := by decide +kernel
theorem dX2_miss_18 : decode cX2_miss 18 = .ok (.ifCond .lt 10, 3) := by decide +kernel
theorem dX2_miss_21 : decode cX2_miss 21 = .ok (.iload_n 3, 1) := by decide +kernel
theorem dX2_miss_22 : decode cX2_miss 22 = .ok (.sipush 10000, 3) := by decide +kernel
theorem dX2_miss_25 : decode cX2_miss 25 = .ok (.if_icmp .le 8, 3) := by decide +kernel
theorem dX2_miss_28 : decode cX2_miss 28 = .ok (.aload_n 0, 1) := by decide +kernel
theorem dX2_miss_29 : decode cX2_miss 29 = .ok (.iconst 2, 1) := by decide +kernel
theorem dX2_miss_30 : decode cX2_miss 30 = .ok (.putfield 43, 3) := by decide +kernel
theorem dX2_miss_33 : decode cX2_miss 33 = .ok (.aload_n 0, 1) := by decide +kernel
theorem dX2_miss_34 : decode cX2_miss 34 = .ok (.getfield 43, 3) := by decide +kernel
theorem dX2_miss_37 : decode cX2_miss 37 = .ok (.ifCond .ne 27, 3) := by decide +kernel
theorem dX2_miss_40 : decode cX2_miss 40 = .ok (.aload_n 0, 1) := by decide +kernel
theorem dX2_miss_41 : decode cX2_miss 41 = .ok (.getfield 21, 3) := by decide +kernel
theorem dX2_miss_44 : decode cX2_miss 44 = .ok (.iload_n 1, 1) := by decide +kernel
theorem dX2_miss_45 : decode cX2_miss 45 = .ok (.iaload, 1) := by decide +kernel
theorem dX2_miss_46 : decode cX2_miss 46 = .ok (.iconst 1, 1) := by decide +kernel
theorem dX2_miss_47 : decode cX2_miss 47 = .ok (.if_icmp .ne 12, 3) := by decide +kernel
theorem dX2_miss_50 : decode cX2_miss 50 = .ok (.aload_n 0, 1) := by decide +kernel
theorem dX2_miss_51 : decode cX2_miss 51 = .ok (.iload_n 1, 1) := by decide +kernel
theorem dX2_miss_52 : decode cX2_miss 52 = .ok (.iload_n 2, 1) := by decide +kernel
theorem dX2_miss_53 : decode cX2_miss 53 = .ok (.invokevirtual 70, 3) := by decide +kernel
theorem dX2_miss_56 : decode cX2_miss 56 = .ok (.ifCond .ne 8, 3) := by decide +kernel
theorem dX2_miss_59 : decode cX2_miss 59 = .ok (.aload_n 0, 1) := by decide +kernel
theorem dX2_miss_60 : decode cX2_miss 60 = .ok (.iconst 3, 1) := by decide +kernel
theorem dX2_miss_61 : decode cX2_miss 61 = .ok (.putfield 43, 3) := by decide +kernel
theorem dX2_miss_64 : decode cX2_miss 64 = .ok (.aload_n 0, 1) := by decide +kernel
theorem dX2_miss_65 : decode cX2_miss 65 = .ok (.getfield 43, 3) := by decide +kernel
theorem dX2_miss_68 : decode cX2_miss 68 = .ok (.ifCond .eq 5, 3) := by decide +kernel
theorem dX2_miss_71 : decode cX2_miss 71 = .ok (.iconst 0, 1) := by decide +kernel
theorem dX2_miss_72 : decode cX2_miss 72 = .ok (.ireturn, 1) := by decide +kernel
theorem dX2_miss_73 : decode cX2_miss 73 = .ok (.aload_n 0, 1) := by decide +kernel
theorem dX2_miss_74 : decode cX2_miss 74 = .ok (.getfield 33, 3) := by decide +kernel
theorem dX2_miss_77 : decode cX2_miss 77 = .ok (.bipush 10, 2) := by decide +kernel
theorem dX2_miss_79 : decode cX2_miss 79 = .ok (.iload_n 1, 1) := by decide +kernel
theorem dX2_miss_80 : decode cX2_miss 80 = .ok (.imul, 1) := by decide +kernel
theorem dX2_miss_81 : decode cX2_miss 81 = .ok (.iload_n 2, 1) := by decide +kernel
theorem dX2_miss_82 : decode cX2_miss 82 = .ok (.iadd, 1) := by decide +kernel
theorem dX2_miss_83 : decode cX2_miss 83 = .ok (.iload_n 3, 1) := by decide +kernel
theorem dX2_miss_84 : decode cX2_miss 84 = .ok (.iastore, 1) := by decide +kernel
theorem dX2_miss_85 : decode cX2_miss 85 = .ok (.aload_n 0, 1) := by decide +kernel
theorem dX2_miss_86 : decode cX2_miss 86 = .ok (.iload_n 1, 1) := by decide +kernel
theorem dX2_miss_87 : decode cX2_miss 87 = .ok (.iload_n 2, 1) := by decide +kernel
theorem dX2_miss_88 : decode cX2_miss 88 = .ok (.invokevirtual 70, 3) := by decide +kernel
theorem dX2_miss_91 : decode cX2_miss 91 = .ok (.ireturn, 1) := by decide +kernel
theorem dX2_day_0 : decode cX2_day 0 = .ok (.aload_n 0, 1) := by decide +kernel
theorem dX2_day_1 : decode cX2_day 1 = .ok (.iload_n 1, 1) := by decide +kernel
theorem dX2_day_2 : decode cX2_day 2 = .ok (.ifCond .lt 10, 3) := by decide +kernel
theorem dX2_day_5 : decode cX2_day 5 = .ok (.iload_n 1, 1) := by decide +kernel
theorem dX2_day_6 : decode cX2_day 6 = .ok (.sipush 10000, 3) := by decide +kernel
theorem dX2_day_9 : decode cX2_day 9 = .ok (.if_icmp .le 7, 3) := by decide +kernel
theorem dX2_day_12 : decode cX2_day 12 = .ok (.iconst 1, 1) := by decide +kernel
theorem dX2_day_13 : decode cX2_day 13 = .ok (.goto 16, 3) := by decide +kernel
theorem dX2_day_16 : decode cX2_day 16 = .ok (.iload_n 1, 1) := by decide +kernel
theorem dX2_day_17 : decode cX2_day 17 = .ok (.aload_n 0, 1) := by decide +kernel
theorem dX2_day_18 : decode cX2_day 18 = .ok (.getfield 73, 3) := by decide +kernel
theorem dX2_day_21 : decode cX2_day 21 = .ok (.if_icmp .ge 7, 3) := by decide +kernel
theorem dX2_day_24 : decode cX2_day 24 = .ok (.iconst 2, 1) := by decide +kernel
theorem dX2_day_25 : decode cX2_day 25 = .ok (.goto 4, 3) := by decide +kernel
theorem dX2_day_28 : decode cX2_day 28 = .ok (.iconst 0, 1) := by decide +kernel
theorem dX2_day_29 : decode cX2_day 29 = .ok (.putfield 43, 3) := by decide +kernel
theorem dX2_day_32 : decode cX2_day 32 = .ok (.aload_n 0, 1) := by decide +kernel
theorem dX2_day_33 : decode cX2_day 33 = .ok (.getfield 43, 3) := by decide +kernel
theorem dX2_day_36 : decode cX2_day 36 = .ok (.ifCond .ne 8, 3) := by decide +kernel
theorem dX2_day_39 : decode cX2_day 39 = .ok (.aload_n 0, 1) := by decide +kernel
theorem dX2_day_40 : decode cX2_day 40 = .ok (.iload_n 1, 1) := by decide +kernel
theorem dX2_day_41 : decode cX2_day 41 = .ok (.putfield 73, 3) := by decide +kernel
theorem dX2_day_44 : decode cX2_day 44 = .ok (.return_, 1) := by decide +kernel
theorem dX2_change_0 : decode cX2_change 0 = .ok (.aload_n 0, 1) := by decide +kernel
theorem dX2_change_1 : decode cX2_change 1 = .ok (.aload_n 0, 1) := by decide +kernel
theorem dX2_change_2 : decode cX2_change 2 = .ok (.iload_n 1, 1) := by decide +kernel
theorem dX2_change_3 : decode cX2_change 3 = .ok (.iload_n 2, 1) := by decide +kernel
theorem dX2_change_4 : decode cX2_change 4 = .ok (.invokevirtual 67, 3) := by decide +kernel
theorem dX2_change_7 : decode cX2_change 7 = .ok (.putfield 43, 3) := by decide +kernel
theorem dX2_change_10 : decode cX2_change 10 = .ok (.aload_n 0, 1) := by decide +kernel
theorem dX2_change_11 : decode cX2_change 11 = .ok (.getfield 43, 3) := by decide +kernel
theorem dX2_change_14 : decode cX2_change 14 = .ok (.ifCond .ne 18, 3) := by decide +kernel
theorem dX2_change_17 : decode cX2_change 17 = .ok (.iload_n 3, 1) := by decide +kernel
theorem dX2_change_18 : decode cX2_change 18 = .ok (.ifCond .lt 9, 3) := by decide +kernel
theorem dX2_change_21 : decode cX2_change 21 = .ok (.iload_n 3, 1) := by decide +kernel
theorem dX2_change_22 : decode cX2_change 22 = .ok (.bipush 9, 2) := by decide +kernel
theorem dX2_change_24 : decode cX2_change 24 = .ok (.if_icmp .le 8, 3) := by decide +kernel
theorem dX2_change_27 : decode cX2_change 27 = .ok (.aload_n 0, 1) := by decide +kernel
theorem dX2_change_28 : decode cX2_change 28 = .ok (.iconst 2, 1) := by decide +kernel
theorem dX2_change_29 : decode cX2_change 29 = .ok (.putfield 43, 3) := by decide +kernel
theorem dX2_change_32 : decode cX2_change 32 = .ok (.aload_n 0, 1) := by decide +kernel
theorem dX2_change_33 : decode cX2_change 33 = .ok (.getfield 43, 3) := by decide +kernel
theorem dX2_change_36 : decode cX2_change 36 = .ok (.ifCond .ne 41, 3) := by decide +kernel
theorem dX2_change_39 : decode cX2_change 39 = .ok (.aload_n 0, 1) := by decide +kernel
theorem dX2_change_40 : decode cX2_change 40 = .ok (.getfield 21, 3) := by decide +kernel
theorem dX2_change_43 : decode cX2_change 43 = .ok (.iload_n 1, 1) := by decide +kernel
theorem dX2_change_44 : decode cX2_change 44 = .ok (.iaload, 1) := by decide +kernel
theorem dX2_change_45 : decode cX2_change 45 = .ok (.iconst 2, 1) := by decide +kernel
theorem dX2_change_46 : decode cX2_change 46 = .ok (.if_icmp .ge 26, 3) := by decide +kernel
theorem dX2_change_49 : decode cX2_change 49 = .ok (.iload_n 3, 1) := by decide +kernel
theorem dX2_change_50 : decode cX2_change 50 = .ok (.ifCond .ne 27, 3) := by decide +kernel
theorem dX2_change_53 : decode cX2_change 53 = .ok (.aload_n 0, 1) := by decide +kernel
theorem dX2_change_54 : decode cX2_change 54 = .ok (.getfield 21, 3) := by decide +kernel
theorem dX2_change_57 : decode cX2_change 57 = .ok (.iload_n 1, 1) := by decide +kernel
theorem dX2_change_58 : decode cX2_change 58 = .ok (.iaload, 1) := by decide +kernel
theorem dX2_change_59 : decode cX2_change 59 = .ok (.iconst 1, 1) := by decide +kernel
theorem dX2_change_60 : decode cX2_change 60 = .ok (.if_icmp .ne 17, 3) := by decide +kernel
theorem dX2_change_63 : decode cX2_change 63 = .ok (.aload_n 0, 1) := by decide +kernel
theorem dX2_change_64 : decode cX2_change 64 = .ok (.iload_n 1, 1) := by decide +kernel
theorem dX2_change_65 : decode cX2_change 65 = .ok (.invokevirtual 56, 3) := by decide +kernel
theorem dX2_change_68 : decode cX2_change 68 = .ok (.iconst 1, 1) := by decide +kernel
theorem dX2_change_69 : decode cX2_change 69 = .ok (.if_icmp .ne 8, 3) := by decide +kernel
theorem dX2_change_72 : decode cX2_change 72 = .ok (.aload_n 0, 1) := by decide +kernel
theorem dX2_change_73 : decode cX2_change 73 = .ok (.iconst 3, 1) := by decide +kernel
theorem dX2_change_74 : decode cX2_change 74 = .ok (.putfield 43, 3) := by decide +kernel
theorem dX2_change_77 : decode cX2_change 77 = .ok (.aload_n 0, 1) := by decide +kernel
theorem dX2_change_78 : decode cX2_change 78 = .ok (.getfield 43, 3) := by decide +kernel
theorem dX2_change_81 : decode cX2_change 81 = .ok (.ifCond .ne 18, 3) := by decide +kernel
theorem dX2_change_84 : decode cX2_change 84 = .ok (.aload_n 0, 1) := by decide +kernel
theorem dX2_change_85 : decode cX2_change 85 = .ok (.getfield 30, 3) := by decide +kernel
theorem dX2_change_88 : decode cX2_change 88 = .ok (.bipush 10, 2) := by decide +kernel
theorem dX2_change_90 : decode cX2_change 90 = .ok (.iload_n 1, 1) := by decide +kernel
theorem dX2_change_91 : decode cX2_change 91 = .ok (.imul, 1) := by decide +kernel
theorem dX2_change_92 : decode cX2_change 92 = .ok (.iload_n 2, 1) := by decide +kernel
theorem dX2_change_93 : decode cX2_change 93 = .ok (.iadd, 1) := by decide +kernel
theorem dX2_change_94 : decode cX2_change 94 = .ok (.iaload, 1) := by decide +kernel
theorem dX2_change_95 : decode cX2_change 95 = .ok (.iload_n 3, 1) := by decide +kernel
theorem dX2_change_96 : decode cX2_change 96 = .ok (.if_icmp .le 5, 3) := by decide +kernel
theorem dX2_change_99 : decode cX2_change 99 = .ok (.iconst 0, 1) := by decide +kernel
theorem dX2_change_100 : decode cX2_change 100 = .ok (.ireturn, 1) := by decide +kernel
theorem dX2_change_101 : decode cX2_change 101 = .ok (.aload_n 0, 1) := by decide +kernel
theorem dX2_change_102 : decode cX2_change 102 = .ok (.getfield 27, 3) := by decide +kernel
theorem dX2_change_105 : decode cX2_change 105 = .ok (.bipush 10, 2) := by decide +kernel
theorem dX2_change_107 : decode cX2_change 107 = .ok (.iload_n 1, 1) := by decide +kernel
theorem dX2_change_108 : decode cX2_change 108 = .ok (.imul, 1) := by decide +kernel
theorem dX2_change_109 : decode cX2_change 109 = .ok (.iload_n 2, 1) := by decide +kernel
theorem dX2_change_110 : decode cX2_change 110 = .ok (.iadd, 1) := by decide +kernel
theorem dX2_change_111 : decode cX2_change 111 = .ok (.iload_n 3, 1) := by decide +kernel
theorem dX2_change_112 : decode cX2_change 112 = .ok (.iastore, 1) := by decide +kernel
theorem dX2_change_113 : decode cX2_change 113 = .ok (.iconst 1, 1) := by decide +kernel
theorem dX2_change_114 : decode cX2_change 114 = .ok (.ireturn, 1) := by decide +kernel
theorem dX2_givenUp_0 : decode cX2_givenUp 0 = .ok (.aload_n 0, 1) := by decide +kernel
theorem dX2_givenUp_1 : decode cX2_givenUp 1 = .ok (.getfield 33, 3) := by decide +kernel
theorem dX2_givenUp_4 : decode cX2_givenUp 4 = .ok (.bipush 10, 2) := by decide +kernel
theorem dX2_givenUp_6 : decode cX2_givenUp 6 = .ok (.iload_n 1, 1) := by decide +kernel
theorem dX2_givenUp_7 : decode cX2_givenUp 7 = .ok (.imul, 1) := by decide +kernel
theorem dX2_givenUp_8 : decode cX2_givenUp 8 = .ok (.iload_n 2, 1) := by decide +kernel
theorem dX2_givenUp_9 : decode cX2_givenUp 9 = .ok (.iadd, 1) := by decide +kernel
theorem dX2_givenUp_10 : decode cX2_givenUp 10 = .ok (.iaload, 1) := by decide +kernel
theorem dX2_givenUp_11 : decode cX2_givenUp 11 = .ok (.iconst (-1), 1) := by decide +kernel
theorem dX2_givenUp_12 : decode cX2_givenUp 12 = .ok (.if_icmp .eq 25, 3) := by decide +kernel
theorem dX2_givenUp_15 : decode cX2_givenUp 15 = .ok (.aload_n 0, 1) := by decide +kernel
theorem dX2_givenUp_16 : decode cX2_givenUp 16 = .ok (.getfield 73, 3) := by decide +kernel
theorem dX2_givenUp_19 : decode cX2_givenUp 19 = .ok (.aload_n 0, 1) := by decide +kernel
theorem dX2_givenUp_20 : decode cX2_givenUp 20 = .ok (.getfield 33, 3) := by decide +kernel
theorem dX2_givenUp_23 : decode cX2_givenUp 23 = .ok (.bipush 10, 2) := by decide +kernel
theorem dX2_givenUp_25 : decode cX2_givenUp 25 = .ok (.iload_n 1, 1) := by decide +kernel
theorem dX2_givenUp_26 : decode cX2_givenUp 26 = .ok (.imul, 1) := by decide +kernel
theorem dX2_givenUp_27 : decode cX2_givenUp 27 = .ok (.iload_n 2, 1) := by decide +kernel
theorem dX2_givenUp_28 : decode cX2_givenUp 28 = .ok (.iadd, 1) := by decide +kernel
theorem dX2_givenUp_29 : decode cX2_givenUp 29 = .ok (.iaload, 1) := by decide +kernel
theorem dX2_givenUp_30 : decode cX2_givenUp 30 = .ok (.if_icmp .le 7, 3) := by decide +kernel
theorem dX2_givenUp_33 : decode cX2_givenUp 33 = .ok (.iconst 1, 1) := by decide +kernel
theorem dX2_givenUp_34 : decode cX2_givenUp 34 = .ok (.goto 4, 3) := by decide +kernel
theorem dX2_givenUp_37 : decode cX2_givenUp 37 = .ok (.iconst 0, 1) := by decide +kernel
theorem dX2_givenUp_38 : decode cX2_givenUp 38 = .ok (.ireturn, 1) := by decide +kernel
theorem dX2_complete_0 : decode cX2_complete 0 = .ok (.aload_n 0, 1) := by decide +kernel
theorem dX2_complete_1 : decode cX2_complete 1 = .ok (.iload_n 1, 1) := by decide +kernel
theorem dX2_complete_2 : decode cX2_complete 2 = .ok (.aload_n 0, 1) := by decide +kernel
theorem dX2_complete_3 : decode cX2_complete 3 = .ok (.getfield 50, 3) := by decide +kernel
theorem dX2_complete_6 : decode cX2_complete 6 = .ok (.invokestatic 53, 3) := by decide +kernel
theorem dX2_complete_9 : decode cX2_complete 9 = .ok (.ifCond .ne 7, 3) := by decide +kernel
theorem dX2_complete_12 : decode cX2_complete 12 = .ok (.iconst 1, 1) := by decide +kernel
theorem dX2_complete_13 : decode cX2_complete 13 = .ok (.goto 18, 3) := by decide +kernel
theorem dX2_complete_16 : decode cX2_complete 16 = .ok (.aload_n 0, 1) := by decide +kernel
theorem dX2_complete_17 : decode cX2_complete 17 = .ok (.getfield 21, 3) := by decide +kernel
theorem dX2_complete_20 : decode cX2_complete 20 = .ok (.iload_n 1, 1) := by decide +kernel
theorem dX2_complete_21 : decode cX2_complete 21 = .ok (.iaload, 1) := by decide +kernel
theorem dX2_complete_22 : decode cX2_complete 22 = .ok (.iconst 1, 1) := by decide +kernel
theorem dX2_complete_23 : decode cX2_complete 23 = .ok (.if_icmp .eq 7, 3) := by decide +kernel
theorem dX2_complete_26 : decode cX2_complete 26 = .ok (.iconst 2, 1) := by decide +kernel
theorem dX2_complete_27 : decode cX2_complete 27 = .ok (.goto 4, 3) := by decide +kernel
theorem dX2_complete_30 : decode cX2_complete 30 = .ok (.iconst 0, 1) := by decide +kernel
theorem dX2_complete_31 : decode cX2_complete 31 = .ok (.putfield 43, 3) := by decide +kernel
theorem dX2_complete_34 : decode cX2_complete 34 = .ok (.aload_n 0, 1) := by decide +kernel
theorem dX2_complete_35 : decode cX2_complete 35 = .ok (.getfield 43, 3) := by decide +kernel
theorem dX2_complete_38 : decode cX2_complete 38 = .ok (.ifCond .eq 5, 3) := by decide +kernel
theorem dX2_complete_41 : decode cX2_complete 41 = .ok (.iconst 0, 1) := by decide +kernel
theorem dX2_complete_42 : decode cX2_complete 42 = .ok (.ireturn, 1) := by decide +kernel
theorem dX2_complete_43 : decode cX2_complete 43 = .ok (.iconst 0, 1) := by decide +kernel
theorem dX2_complete_44 : decode cX2_complete 44 = .ok (.istore_n 2, 1) := by decide +kernel
theorem dX2_complete_45 : decode cX2_complete 45 = .ok (.iload_n 2, 1) := by decide +kernel
theorem dX2_complete_46 : decode cX2_complete 46 = .ok (.bipush 10, 2) := by decide +kernel
theorem dX2_complete_48 : decode cX2_complete 48 = .ok (.if_icmp .ge 38, 3) := by decide +kernel
theorem dX2_complete_51 : decode cX2_complete 51 = .ok (.aload_n 0, 1) := by decide +kernel
theorem dX2_complete_52 : decode cX2_complete 52 = .ok (.iload_n 1, 1) := by decide +kernel
theorem dX2_complete_53 : decode cX2_complete 53 = .ok (.iload_n 2, 1) := by decide +kernel
theorem dX2_complete_54 : decode cX2_complete 54 = .ok (.invokevirtual 46, 3) := by decide +kernel
theorem dX2_complete_57 : decode cX2_complete 57 = .ok (.ifCond .eq 23, 3) := by decide +kernel
theorem dX2_complete_60 : decode cX2_complete 60 = .ok (.aload_n 0, 1) := by decide +kernel
theorem dX2_complete_61 : decode cX2_complete 61 = .ok (.iload_n 1, 1) := by decide +kernel
theorem dX2_complete_62 : decode cX2_complete 62 = .ok (.iload_n 2, 1) := by decide +kernel
theorem dX2_complete_63 : decode cX2_complete 63 = .ok (.invokevirtual 70, 3) := by decide +kernel
theorem dX2_complete_66 : decode cX2_complete 66 = .ok (.ifCond .le 14, 3) := by decide +kernel
theorem dX2_complete_69 : decode cX2_complete 69 = .ok (.aload_n 0, 1) := by decide +kernel
theorem dX2_complete_70 : decode cX2_complete 70 = .ok (.iload_n 1, 1) := by decide +kernel
theorem dX2_complete_71 : decode cX2_complete 71 = .ok (.iload_n 2, 1) := by decide +kernel
theorem dX2_complete_72 : decode cX2_complete 72 = .ok (.invokevirtual 76, 3) := by decide +kernel
theorem dX2_complete_75 : decode cX2_complete 75 = .ok (.ifCond .ne 5, 3) := by decide +kernel
theorem dX2_complete_78 : decode cX2_complete 78 = .ok (.iconst 0, 1) := by decide +kernel
theorem dX2_complete_79 : decode cX2_complete 79 = .ok (.ireturn, 1) := by decide +kernel
theorem dX2_complete_80 : decode cX2_complete 80 = .ok (.iinc 2 1, 3) := by decide +kernel
theorem dX2_complete_83 : decode cX2_complete 83 = .ok (.goto (-38), 3) := by decide +kernel
theorem dX2_complete_86 : decode cX2_complete 86 = .ok (.aload_n 0, 1) := by decide +kernel
theorem dX2_complete_87 : decode cX2_complete 87 = .ok (.getfield 21, 3) := by decide +kernel
theorem dX2_complete_90 : decode cX2_complete 90 = .ok (.iload_n 1, 1) := by decide +kernel
theorem dX2_complete_91 : decode cX2_complete 91 = .ok (.iconst 2, 1) := by decide +kernel
theorem dX2_complete_92 : decode cX2_complete 92 = .ok (.iastore, 1) := by decide +kernel
theorem dX2_complete_93 : decode cX2_complete 93 = .ok (.iconst 1, 1) := by decide +kernel
theorem dX2_complete_94 : decode cX2_complete 94 = .ok (.ireturn, 1) := by decide +kernel
theorem dX2_release_0 : decode cX2_release 0 = .ok (.aload_n 0, 1) := by decide +kernel
theorem dX2_release_1 : decode cX2_release 1 = .ok (.iload_n 1, 1) := by decide +kernel
theorem dX2_release_2 : decode cX2_release 2 = .ok (.aload_n 0, 1) := by decide +kernel
theorem dX2_release_3 : decode cX2_release 3 = .ok (.getfield 39, 3) := by decide +kernel
theorem dX2_release_6 : decode cX2_release 6 = .ok (.invokestatic 53, 3) := by decide +kernel
theorem dX2_release_9 : decode cX2_release 9 = .ok (.ifCond .ne 7, 3) := by decide +kernel
theorem dX2_release_12 : decode cX2_release 12 = .ok (.iconst 1, 1) := by decide +kernel
theorem dX2_release_13 : decode cX2_release 13 = .ok (.goto 17, 3) := by decide +kernel
theorem dX2_release_16 : decode cX2_release 16 = .ok (.aload_n 0, 1) := by decide +kernel
theorem dX2_release_17 : decode cX2_release 17 = .ok (.iload_n 1, 1) := by decide +kernel
theorem dX2_release_18 : decode cX2_release 18 = .ok (.invokevirtual 60, 3) := by decide +kernel
theorem dX2_release_21 : decode cX2_release 21 = .ok (.iconst (-1), 1) := by decide +kernel
theorem dX2_release_22 : decode cX2_release 22 = .ok (.if_icmp .ne 7, 3) := by decide +kernel
theorem dX2_release_25 : decode cX2_release 25 = .ok (.iconst 2, 1) := by decide +kernel
theorem dX2_release_26 : decode cX2_release 26 = .ok (.goto 4, 3) := by decide +kernel
theorem dX2_release_29 : decode cX2_release 29 = .ok (.iconst 0, 1) := by decide +kernel
theorem dX2_release_30 : decode cX2_release 30 = .ok (.putfield 43, 3) := by decide +kernel
theorem dX2_release_33 : decode cX2_release 33 = .ok (.aload_n 0, 1) := by decide +kernel
theorem dX2_release_34 : decode cX2_release 34 = .ok (.getfield 43, 3) := by decide +kernel
theorem dX2_release_37 : decode cX2_release 37 = .ok (.ifCond .eq 5, 3) := by decide +kernel
theorem dX2_release_40 : decode cX2_release 40 = .ok (.iconst 0, 1) := by decide +kernel
theorem dX2_release_41 : decode cX2_release 41 = .ok (.ireturn, 1) := by decide +kernel
theorem dX2_release_42 : decode cX2_release 42 = .ok (.aload_n 0, 1) := by decide +kernel
theorem dX2_release_43 : decode cX2_release 43 = .ok (.iload_n 1, 1) := by decide +kernel
theorem dX2_release_44 : decode cX2_release 44 = .ok (.invokevirtual 60, 3) := by decide +kernel
theorem dX2_release_47 : decode cX2_release 47 = .ok (.istore_n 2, 1) := by decide +kernel
theorem dX2_release_48 : decode cX2_release 48 = .ok (.aload_n 0, 1) := by decide +kernel
theorem dX2_release_49 : decode cX2_release 49 = .ok (.getfield 21, 3) := by decide +kernel
theorem dX2_release_52 : decode cX2_release 52 = .ok (.iload_n 2, 1) := by decide +kernel
theorem dX2_release_53 : decode cX2_release 53 = .ok (.iaload, 1) := by decide +kernel
theorem dX2_release_54 : decode cX2_release 54 = .ok (.iconst 2, 1) := by decide +kernel
theorem dX2_release_55 : decode cX2_release 55 = .ok (.if_icmp .eq 5, 3) := by decide +kernel
theorem dX2_release_58 : decode cX2_release 58 = .ok (.iconst 0, 1) := by decide +kernel
theorem dX2_release_59 : decode cX2_release 59 = .ok (.ireturn, 1) := by decide +kernel
theorem dX2_release_60 : decode cX2_release 60 = .ok (.aload_n 0, 1) := by decide +kernel
theorem dX2_release_61 : decode cX2_release 61 = .ok (.getfield 21, 3) := by decide +kernel
theorem dX2_release_64 : decode cX2_release 64 = .ok (.iload_n 2, 1) := by decide +kernel
theorem dX2_release_65 : decode cX2_release 65 = .ok (.iconst 3, 1) := by decide +kernel
theorem dX2_release_66 : decode cX2_release 66 = .ok (.iastore, 1) := by decide +kernel
theorem dX2_release_67 : decode cX2_release 67 = .ok (.aload_n 0, 1) := by decide +kernel
theorem dX2_release_68 : decode cX2_release 68 = .ok (.getfield 24, 3) := by decide +kernel
theorem dX2_release_71 : decode cX2_release 71 = .ok (.iload_n 2, 1) := by decide +kernel
theorem dX2_release_72 : decode cX2_release 72 = .ok (.iconst (-1), 1) := by decide +kernel
theorem dX2_release_73 : decode cX2_release 73 = .ok (.iastore, 1) := by decide +kernel
theorem dX2_release_74 : decode cX2_release 74 = .ok (.iconst 1, 1) := by decide +kernel
theorem dX2_release_75 : decode cX2_release 75 = .ok (.ireturn, 1) := by decide +kernel
theorem dX2_sample_0 : decode cX2_sample 0 = .ok (.aload_n 0, 1) := by decide +kernel
theorem dX2_sample_1 : decode cX2_sample 1 = .ok (.iconst 0, 1) := by decide +kernel
theorem dX2_sample_2 : decode cX2_sample 2 = .ok (.putfield 43, 3) := by decide +kernel
theorem dX2_sample_5 : decode cX2_sample 5 = .ok (.iconst 0, 1) := by decide +kernel
theorem dX2_sample_6 : decode cX2_sample 6 = .ok (.istore_n 1, 1) := by decide +kernel
theorem dX2_sample_7 : decode cX2_sample 7 = .ok (.iconst 0, 1) := by decide +kernel
theorem dX2_sample_8 : decode cX2_sample 8 = .ok (.istore_n 2, 1) := by decide +kernel
theorem dX2_sample_9 : decode cX2_sample 9 = .ok (.iload_n 2, 1) := by decide +kernel
theorem dX2_sample_10 : decode cX2_sample 10 = .ok (.aload_n 0, 1) := by decide +kernel
theorem dX2_sample_11 : decode cX2_sample 11 = .ok (.getfield 50, 3) := by decide +kernel
theorem dX2_sample_14 : decode cX2_sample 14 = .ok (.if_icmp .ge 22, 3) := by decide +kernel
theorem dX2_sample_17 : decode cX2_sample 17 = .ok (.aload_n 0, 1) := by decide +kernel
theorem dX2_sample_18 : decode cX2_sample 18 = .ok (.getfield 21, 3) := by decide +kernel
theorem dX2_sample_21 : decode cX2_sample 21 = .ok (.iload_n 2, 1) := by decide +kernel
theorem dX2_sample_22 : decode cX2_sample 22 = .ok (.iaload, 1) := by decide +kernel
theorem dX2_sample_23 : decode cX2_sample 23 = .ok (.iconst 2, 1) := by decide +kernel
theorem dX2_sample_24 : decode cX2_sample 24 = .ok (.if_icmp .ne 6, 3) := by decide +kernel
theorem dX2_sample_27 : decode cX2_sample 27 = .ok (.iinc 1 1, 3) := by decide +kernel
theorem dX2_sample_30 : decode cX2_sample 30 = .ok (.iinc 2 1, 3) := by decide +kernel
theorem dX2_sample_33 : decode cX2_sample 33 = .ok (.goto (-24), 3) := by decide +kernel
theorem dX2_sample_36 : decode cX2_sample 36 = .ok (.iload_n 1, 1) := by decide +kernel
theorem dX2_sample_37 : decode cX2_sample 37 = .ok (.ifCond .ne 5, 3) := by decide +kernel
theorem dX2_sample_40 : decode cX2_sample 40 = .ok (.iconst (-1), 1) := by decide +kernel
theorem dX2_sample_41 : decode cX2_sample 41 = .ok (.ireturn, 1) := by decide +kernel
theorem dX2_sample_42 : decode cX2_sample 42 = .ok (.aload_n 0, 1) := by decide +kernel
theorem dX2_sample_43 : decode cX2_sample 43 = .ok (.aload_n 0, 1) := by decide +kernel
theorem dX2_sample_44 : decode cX2_sample 44 = .ok (.getfield 17, 3) := by decide +kernel
theorem dX2_sample_47 : decode cX2_sample 47 = .ok (.ldc2_w 79, 3) := by decide +kernel
theorem dX2_sample_50 : decode cX2_sample 50 = .ok (.lmul, 1) := by decide +kernel
theorem dX2_sample_51 : decode cX2_sample 51 = .ok (.ldc2_w 81, 3) := by decide +kernel
theorem dX2_sample_54 : decode cX2_sample 54 = .ok (.ladd, 1) := by decide +kernel
theorem dX2_sample_55 : decode cX2_sample 55 = .ok (.ldc2_w 83, 3) := by decide +kernel
theorem dX2_sample_58 : decode cX2_sample 58 = .ok (.lrem, 1) := by decide +kernel
theorem dX2_sample_59 : decode cX2_sample 59 = .ok (.putfield 17, 3) := by decide +kernel
theorem dX2_sample_62 : decode cX2_sample 62 = .ok (.aload_n 0, 1) := by decide +kernel
theorem dX2_sample_63 : decode cX2_sample 63 = .ok (.getfield 17, 3) := by decide +kernel
theorem dX2_sample_66 : decode cX2_sample 66 = .ok (.ldc2_w 85, 3) := by decide +kernel
theorem dX2_sample_69 : decode cX2_sample 69 = .ok (.ldiv, 1) := by decide +kernel
theorem dX2_sample_70 : decode cX2_sample 70 = .ok (.iload_n 1, 1) := by decide +kernel
theorem dX2_sample_71 : decode cX2_sample 71 = .ok (.i2l, 1) := by decide +kernel
theorem dX2_sample_72 : decode cX2_sample 72 = .ok (.lrem, 1) := by decide +kernel
theorem dX2_sample_73 : decode cX2_sample 73 = .ok (.l2i, 1) := by decide +kernel
theorem dX2_sample_74 : decode cX2_sample 74 = .ok (.istore_n 2, 1) := by decide +kernel
theorem dX2_sample_75 : decode cX2_sample 75 = .ok (.iconst 0, 1) := by decide +kernel
theorem dX2_sample_76 : decode cX2_sample 76 = .ok (.istore_n 3, 1) := by decide +kernel
theorem dX2_sample_77 : decode cX2_sample 77 = .ok (.iload_n 3, 1) := by decide +kernel
theorem dX2_sample_78 : decode cX2_sample 78 = .ok (.aload_n 0, 1) := by decide +kernel
theorem dX2_sample_79 : decode cX2_sample 79 = .ok (.getfield 39, 3) := by decide +kernel
theorem dX2_sample_82 : decode cX2_sample 82 = .ok (.if_icmp .ge 43, 3) := by decide +kernel
theorem dX2_sample_85 : decode cX2_sample 85 = .ok (.aload_n 0, 1) := by decide +kernel
theorem dX2_sample_86 : decode cX2_sample 86 = .ok (.iload_n 3, 1) := by decide +kernel
theorem dX2_sample_87 : decode cX2_sample 87 = .ok (.invokevirtual 60, 3) := by decide +kernel
theorem dX2_sample_90 : decode cX2_sample 90 = .ok (.istore 4, 2) := by decide +kernel
theorem dX2_sample_92 : decode cX2_sample 92 = .ok (.iload 4, 2) := by decide +kernel
theorem dX2_sample_94 : decode cX2_sample 94 = .ok (.iconst (-1), 1) := by decide +kernel
theorem dX2_sample_95 : decode cX2_sample 95 = .ok (.if_icmp .eq 24, 3) := by decide +kernel
theorem dX2_sample_98 : decode cX2_sample 98 = .ok (.aload_n 0, 1) := by decide +kernel
theorem dX2_sample_99 : decode cX2_sample 99 = .ok (.getfield 21, 3) := by decide +kernel
theorem dX2_sample_102 : decode cX2_sample 102 = .ok (.iload 4, 2) := by decide +kernel
theorem dX2_sample_104 : decode cX2_sample 104 = .ok (.iaload, 1) := by decide +kernel
theorem dX2_sample_105 : decode cX2_sample 105 = .ok (.iconst 2, 1) := by decide +kernel
theorem dX2_sample_106 : decode cX2_sample 106 = .ok (.if_icmp .ne 13, 3) := by decide +kernel
theorem dX2_sample_109 : decode cX2_sample 109 = .ok (.iload_n 2, 1) := by decide +kernel
theorem dX2_sample_110 : decode cX2_sample 110 = .ok (.ifCond .ne 6, 3) := by decide +kernel
theorem dX2_sample_113 : decode cX2_sample 113 = .ok (.iload 4, 2) := by decide +kernel
theorem dX2_sample_115 : decode cX2_sample 115 = .ok (.ireturn, 1) := by decide +kernel
theorem dX2_sample_116 : decode cX2_sample 116 = .ok (.iinc 2 (-1), 3) := by decide +kernel
theorem dX2_sample_119 : decode cX2_sample 119 = .ok (.iinc 3 1, 3) := by decide +kernel
theorem dX2_sample_122 : decode cX2_sample 122 = .ok (.goto (-45), 3) := by decide +kernel
theorem dX2_sample_125 : decode cX2_sample 125 = .ok (.iconst (-1), 1) := by decide +kernel
theorem dX2_sample_126 : decode cX2_sample 126 = .ok (.ireturn, 1) := by decide +kernel
theorem dX2_seed_0 : decode cX2_seed 0 = .ok (.aload_n 0, 1) := by decide +kernel
theorem dX2_seed_1 : decode cX2_seed 1 = .ok (.iload_n 1, 1) := by decide +kernel
theorem dX2_seed_2 : decode cX2_seed 2 = .ok (.ifCond .ge 7, 3) := by decide +kernel
theorem dX2_seed_5 : decode cX2_seed 5 = .ok (.iconst 1, 1) := by decide +kernel
theorem dX2_seed_6 : decode cX2_seed 6 = .ok (.goto 4, 3) := by decide +kernel
theorem dX2_seed_9 : decode cX2_seed 9 = .ok (.iconst 0, 1) := by decide +kernel
theorem dX2_seed_10 : decode cX2_seed 10 = .ok (.putfield 43, 3) := by decide +kernel
theorem dX2_seed_13 : decode cX2_seed 13 = .ok (.aload_n 0, 1) := by decide +kernel
theorem dX2_seed_14 : decode cX2_seed 14 = .ok (.getfield 43, 3) := by decide +kernel
theorem dX2_seed_17 : decode cX2_seed 17 = .ok (.ifCond .ne 9, 3) := by decide +kernel
theorem dX2_seed_20 : decode cX2_seed 20 = .ok (.aload_n 0, 1) := by decide +kernel
theorem dX2_seed_21 : decode cX2_seed 21 = .ok (.iload_n 1, 1) := by decide +kernel
theorem dX2_seed_22 : decode cX2_seed 22 = .ok (.i2l, 1) := by decide +kernel
theorem dX2_seed_23 : decode cX2_seed 23 = .ok (.putfield 17, 3) := by decide +kernel
theorem dX2_seed_26 : decode cX2_seed 26 = .ok (.return_, 1) := by decide +kernel
theorem dX2_told_0 : decode cX2_told 0 = .ok (.aload_n 0, 1) := by decide +kernel
theorem dX2_told_1 : decode cX2_told 1 = .ok (.iload_n 1, 1) := by decide +kernel
theorem dX2_told_2 : decode cX2_told 2 = .ok (.aload_n 0, 1) := by decide +kernel
theorem dX2_told_3 : decode cX2_told 3 = .ok (.getfield 50, 3) := by decide +kernel
theorem dX2_told_6 : decode cX2_told 6 = .ok (.invokestatic 53, 3) := by decide +kernel
theorem dX2_told_9 : decode cX2_told 9 = .ok (.ifCond .ne 7, 3) := by decide +kernel
theorem dX2_told_12 : decode cX2_told 12 = .ok (.iconst 1, 1) := by decide +kernel
theorem dX2_told_13 : decode cX2_told 13 = .ok (.goto 17, 3) := by decide +kernel
theorem dX2_told_16 : decode cX2_told 16 = .ok (.iload_n 2, 1) := by decide +kernel
theorem dX2_told_17 : decode cX2_told 17 = .ok (.bipush 6, 2) := by decide +kernel
theorem dX2_told_19 : decode cX2_told 19 = .ok (.invokestatic 53, 3) := by decide +kernel
theorem dX2_told_22 : decode cX2_told 22 = .ok (.ifCond .ne 7, 3) := by decide +kernel
theorem dX2_told_25 : decode cX2_told 25 = .ok (.iconst 2, 1) := by decide +kernel
theorem dX2_told_26 : decode cX2_told 26 = .ok (.goto 4, 3) := by decide +kernel
theorem dX2_told_29 : decode cX2_told 29 = .ok (.iconst 0, 1) := by decide +kernel
theorem dX2_told_30 : decode cX2_told 30 = .ok (.putfield 43, 3) := by decide +kernel
theorem dX2_told_33 : decode cX2_told 33 = .ok (.aload_n 0, 1) := by decide +kernel
theorem dX2_told_34 : decode cX2_told 34 = .ok (.getfield 43, 3) := by decide +kernel
theorem dX2_told_37 : decode cX2_told 37 = .ok (.ifCond .eq 5, 3) := by decide +kernel
theorem dX2_told_40 : decode cX2_told 40 = .ok (.iconst 0, 1) := by decide +kernel
theorem dX2_told_41 : decode cX2_told 41 = .ok (.ireturn, 1) := by decide +kernel
theorem dX2_told_42 : decode cX2_told 42 = .ok (.iload_n 2, 1) := by decide +kernel
theorem dX2_told_43 : decode cX2_told 43 = .ok (.ifCond .ne 10, 3) := by decide +kernel
theorem dX2_told_46 : decode cX2_told 46 = .ok (.aload_n 0, 1) := by decide +kernel
theorem dX2_told_47 : decode cX2_told 47 = .ok (.getfield 21, 3) := by decide +kernel
theorem dX2_told_50 : decode cX2_told 50 = .ok (.iload_n 1, 1) := by decide +kernel
theorem dX2_told_51 : decode cX2_told 51 = .ok (.iaload, 1) := by decide +kernel
theorem dX2_told_52 : decode cX2_told 52 = .ok (.ireturn, 1) := by decide +kernel
theorem dX2_told_53 : decode cX2_told 53 = .ok (.iload_n 2, 1) := by decide +kernel
theorem dX2_told_54 : decode cX2_told 54 = .ok (.iconst 1, 1) := by decide +kernel
theorem dX2_told_55 : decode cX2_told 55 = .ok (.if_icmp .ne 10, 3) := by decide +kernel
theorem dX2_told_58 : decode cX2_told 58 = .ok (.aload_n 0, 1) := by decide +kernel
theorem dX2_told_59 : decode cX2_told 59 = .ok (.getfield 24, 3) := by decide +kernel
theorem dX2_told_62 : decode cX2_told 62 = .ok (.iload_n 1, 1) := by decide +kernel
theorem dX2_told_63 : decode cX2_told 63 = .ok (.iaload, 1) := by decide +kernel
theorem dX2_told_64 : decode cX2_told 64 = .ok (.ireturn, 1) := by decide +kernel
theorem dX2_told_65 : decode cX2_told 65 = .ok (.iload_n 2, 1) := by decide +kernel
theorem dX2_told_66 : decode cX2_told 66 = .ok (.iconst 2, 1) := by decide +kernel
theorem dX2_told_67 : decode cX2_told 67 = .ok (.if_icmp .ne 9, 3) := by decide +kernel
theorem dX2_told_70 : decode cX2_told 70 = .ok (.aload_n 0, 1) := by decide +kernel
theorem dX2_told_71 : decode cX2_told 71 = .ok (.iload_n 1, 1) := by decide +kernel
theorem dX2_told_72 : decode cX2_told 72 = .ok (.invokevirtual 56, 3) := by decide +kernel
theorem dX2_told_75 : decode cX2_told 75 = .ok (.ireturn, 1) := by decide +kernel
theorem dX2_told_76 : decode cX2_told 76 = .ok (.iconst 0, 1) := by decide +kernel
theorem dX2_told_77 : decode cX2_told 77 = .ok (.istore_n 3, 1) := by decide +kernel
theorem dX2_told_78 : decode cX2_told 78 = .ok (.iconst 0, 1) := by decide +kernel
theorem dX2_told_79 : decode cX2_told 79 = .ok (.istore 4, 2) := by decide +kernel
theorem dX2_told_81 : decode cX2_told 81 = .ok (.iload 4, 2) := by decide +kernel
theorem dX2_told_83 : decode cX2_told 83 = .ok (.bipush 10, 2) := by decide +kernel
theorem dX2_told_85 : decode cX2_told 85 = .ok (.if_icmp .ge 83, 3) := by decide +kernel
theorem dX2_told_88 : decode cX2_told 88 = .ok (.aload_n 0, 1) := by decide +kernel
theorem dX2_told_89 : decode cX2_told 89 = .ok (.iload_n 1, 1) := by decide +kernel
theorem dX2_told_90 : decode cX2_told 90 = .ok (.iload 4, 2) := by decide +kernel
theorem dX2_told_92 : decode cX2_told 92 = .ok (.invokevirtual 46, 3) := by decide +kernel
theorem dX2_told_95 : decode cX2_told 95 = .ok (.ifCond .eq 67, 3) := by decide +kernel
theorem dX2_told_98 : decode cX2_told 98 = .ok (.iload_n 3, 1) := by decide +kernel
theorem dX2_told_99 : decode cX2_told 99 = .ok (.iload_n 2, 1) := by decide +kernel
theorem dX2_told_100 : decode cX2_told 100 = .ok (.iconst 3, 1) := by decide +kernel
theorem dX2_told_101 : decode cX2_told 101 = .ok (.if_icmp .ne 18, 3) := by decide +kernel
theorem dX2_told_104 : decode cX2_told 104 = .ok (.aload_n 0, 1) := by decide +kernel
theorem dX2_told_105 : decode cX2_told 105 = .ok (.getfield 30, 3) := by decide +kernel
theorem dX2_told_108 : decode cX2_told 108 = .ok (.bipush 10, 2) := by decide +kernel
theorem dX2_told_110 : decode cX2_told 110 = .ok (.iload_n 1, 1) := by decide +kernel
theorem dX2_told_111 : decode cX2_told 111 = .ok (.imul, 1) := by decide +kernel
theorem dX2_told_112 : decode cX2_told 112 = .ok (.iload 4, 2) := by decide +kernel
theorem dX2_told_114 : decode cX2_told 114 = .ok (.iadd, 1) := by decide +kernel
theorem dX2_told_115 : decode cX2_told 115 = .ok (.iaload, 1) := by decide +kernel
theorem dX2_told_116 : decode cX2_told 116 = .ok (.goto 44, 3) := by decide +kernel
theorem dX2_told_119 : decode cX2_told 119 = .ok (.iload_n 2, 1) := by decide +kernel
theorem dX2_told_120 : decode cX2_told 120 = .ok (.iconst 4, 1) := by decide +kernel
theorem dX2_told_121 : decode cX2_told 121 = .ok (.if_icmp .ne 18, 3) := by decide +kernel
theorem dX2_told_124 : decode cX2_told 124 = .ok (.aload_n 0, 1) := by decide +kernel
theorem dX2_told_125 : decode cX2_told 125 = .ok (.getfield 27, 3) := by decide +kernel
theorem dX2_told_128 : decode cX2_told 128 = .ok (.bipush 10, 2) := by decide +kernel
theorem dX2_told_130 : decode cX2_told 130 = .ok (.iload_n 1, 1) := by decide +kernel
theorem dX2_told_131 : decode cX2_told 131 = .ok (.imul, 1) := by decide +kernel
theorem dX2_told_132 : decode cX2_told 132 = .ok (.iload 4, 2) := by decide +kernel
theorem dX2_told_134 : decode cX2_told 134 = .ok (.iadd, 1) := by decide +kernel
theorem dX2_told_135 : decode cX2_told 135 = .ok (.iaload, 1) := by decide +kernel
theorem dX2_told_136 : decode cX2_told 136 = .ok (.goto 24, 3) := by decide +kernel
theorem dX2_told_139 : decode cX2_told 139 = .ok (.aload_n 0, 1) := by decide +kernel
theorem dX2_told_140 : decode cX2_told 140 = .ok (.iload_n 1, 1) := by decide +kernel
theorem dX2_told_141 : decode cX2_told 141 = .ok (.iload 4, 2) := by decide +kernel
theorem dX2_told_143 : decode cX2_told 143 = .ok (.invokevirtual 76, 3) := by decide +kernel
theorem dX2_told_146 : decode cX2_told 146 = .ok (.ifCond .eq 13, 3) := by decide +kernel
theorem dX2_told_149 : decode cX2_told 149 = .ok (.aload_n 0, 1) := by decide +kernel
theorem dX2_told_150 : decode cX2_told 150 = .ok (.iload_n 1, 1) := by decide +kernel
theorem dX2_told_151 : decode cX2_told 151 = .ok (.iload 4, 2) := by decide +kernel
theorem dX2_told_153 : decode cX2_told 153 = .ok (.invokevirtual 70, 3) := by decide +kernel
theorem dX2_told_156 : decode cX2_told 156 = .ok (.goto 4, 3) := by decide +kernel
theorem dX2_told_159 : decode cX2_told 159 = .ok (.iconst 0, 1) := by decide +kernel
theorem dX2_told_160 : decode cX2_told 160 = .ok (.iadd, 1) := by decide +kernel
theorem dX2_told_161 : decode cX2_told 161 = .ok (.istore_n 3, 1) := by decide +kernel
theorem dX2_told_162 : decode cX2_told 162 = .ok (.iinc 4 1, 3) := by decide +kernel
theorem dX2_told_165 : decode cX2_told 165 = .ok (.goto (-84), 3) := by decide +kernel
theorem dX2_told_168 : decode cX2_told 168 = .ok (.iload_n 3, 1) := by decide +kernel
theorem dX2_told_169 : decode cX2_told 169 = .ok (.ireturn, 1) := by decide +kernel
theorem dX2_piece_0 : decode cX2_piece 0 = .ok (.aload_n 0, 1) := by decide +kernel
theorem dX2_piece_1 : decode cX2_piece 1 = .ok (.aload_n 0, 1) := by decide +kernel
theorem dX2_piece_2 : decode cX2_piece 2 = .ok (.iload_n 1, 1) := by decide +kernel
theorem dX2_piece_3 : decode cX2_piece 3 = .ok (.iload_n 2, 1) := by decide +kernel
theorem dX2_piece_4 : decode cX2_piece 4 = .ok (.invokevirtual 67, 3) := by decide +kernel
theorem dX2_piece_7 : decode cX2_piece 7 = .ok (.putfield 43, 3) := by decide +kernel
theorem dX2_piece_10 : decode cX2_piece 10 = .ok (.aload_n 0, 1) := by decide +kernel
theorem dX2_piece_11 : decode cX2_piece 11 = .ok (.getfield 43, 3) := by decide +kernel
theorem dX2_piece_14 : decode cX2_piece 14 = .ok (.ifCond .ne 16, 3) := by decide +kernel
theorem dX2_piece_17 : decode cX2_piece 17 = .ok (.iload_n 3, 1) := by decide +kernel
theorem dX2_piece_18 : decode cX2_piece 18 = .ok (.iconst 3, 1) := by decide +kernel
theorem dX2_piece_19 : decode cX2_piece 19 = .ok (.invokestatic 53, 3) := by decide +kernel
theorem dX2_piece_22 : decode cX2_piece 22 = .ok (.ifCond .ne 8, 3) := by decide +kernel
theorem dX2_piece_25 : decode cX2_piece 25 = .ok (.aload_n 0, 1) := by decide +kernel
theorem dX2_piece_26 : decode cX2_piece 26 = .ok (.iconst 2, 1) := by decide +kernel
theorem dX2_piece_27 : decode cX2_piece 27 = .ok (.putfield 43, 3) := by decide +kernel
theorem dX2_piece_30 : decode cX2_piece 30 = .ok (.aload_n 0, 1) := by decide +kernel
theorem dX2_piece_31 : decode cX2_piece 31 = .ok (.getfield 43, 3) := by decide +kernel
theorem dX2_piece_34 : decode cX2_piece 34 = .ok (.ifCond .eq 5, 3) := by decide +kernel
theorem dX2_piece_37 : decode cX2_piece 37 = .ok (.iconst 0, 1) := by decide +kernel
theorem dX2_piece_38 : decode cX2_piece 38 = .ok (.ireturn, 1) := by decide +kernel
theorem dX2_piece_39 : decode cX2_piece 39 = .ok (.bipush 10, 2) := by decide +kernel
theorem dX2_piece_41 : decode cX2_piece 41 = .ok (.iload_n 1, 1) := by decide +kernel
theorem dX2_piece_42 : decode cX2_piece 42 = .ok (.imul, 1) := by decide +kernel
theorem dX2_piece_43 : decode cX2_piece 43 = .ok (.iload_n 2, 1) := by decide +kernel
theorem dX2_piece_44 : decode cX2_piece 44 = .ok (.iadd, 1) := by decide +kernel
theorem dX2_piece_45 : decode cX2_piece 45 = .ok (.istore 4, 2) := by decide +kernel
theorem dX2_piece_47 : decode cX2_piece 47 = .ok (.iload_n 3, 1) := by decide +kernel
theorem dX2_piece_48 : decode cX2_piece 48 = .ok (.ifCond .ne 13, 3) := by decide +kernel
theorem dX2_piece_51 : decode cX2_piece 51 = .ok (.aload_n 0, 1) := by decide +kernel
theorem dX2_piece_52 : decode cX2_piece 52 = .ok (.getfield 27, 3) := by decide +kernel
theorem dX2_piece_55 : decode cX2_piece 55 = .ok (.iload 4, 2) := by decide +kernel
theorem dX2_piece_57 : decode cX2_piece 57 = .ok (.iaload, 1) := by decide +kernel
theorem dX2_piece_58 : decode cX2_piece 58 = .ok (.goto 25, 3) := by decide +kernel
theorem dX2_piece_61 : decode cX2_piece 61 = .ok (.iload_n 3, 1) := by decide +kernel
theorem dX2_piece_62 : decode cX2_piece 62 = .ok (.iconst 1, 1) := by decide +kernel
theorem dX2_piece_63 : decode cX2_piece 63 = .ok (.if_icmp .ne 13, 3) := by decide +kernel
theorem dX2_piece_66 : decode cX2_piece 66 = .ok (.aload_n 0, 1) := by decide +kernel
theorem dX2_piece_67 : decode cX2_piece 67 = .ok (.getfield 30, 3) := by decide +kernel
theorem dX2_piece_70 : decode cX2_piece 70 = .ok (.iload 4, 2) := by decide +kernel
theorem dX2_piece_72 : decode cX2_piece 72 = .ok (.iaload, 1) := by decide +kernel
theorem dX2_piece_73 : decode cX2_piece 73 = .ok (.goto 10, 3) := by decide +kernel
theorem dX2_piece_76 : decode cX2_piece 76 = .ok (.aload_n 0, 1) := by decide +kernel
theorem dX2_piece_77 : decode cX2_piece 77 = .ok (.getfield 33, 3) := by decide +kernel
theorem dX2_piece_80 : decode cX2_piece 80 = .ok (.iload 4, 2) := by decide +kernel
theorem dX2_piece_82 : decode cX2_piece 82 = .ok (.iaload, 1) := by decide +kernel
theorem dX2_piece_83 : decode cX2_piece 83 = .ok (.ireturn, 1) := by decide +kernel
theorem dX2_errors_0 : decode cX2_errors 0 = .ok (.aload_n 0, 1) := by decide +kernel
theorem dX2_errors_1 : decode cX2_errors 1 = .ok (.iload_n 1, 1) := by decide +kernel
theorem dX2_errors_2 : decode cX2_errors 2 = .ok (.bipush 8, 2) := by decide +kernel
theorem dX2_errors_4 : decode cX2_errors 4 = .ok (.invokestatic 53, 3) := by decide +kernel
theorem dX2_errors_7 : decode cX2_errors 7 = .ok (.ifCond .eq 7, 3) := by decide +kernel
theorem dX2_errors_10 : decode cX2_errors 10 = .ok (.iconst 0, 1) := by decide +kernel
theorem dX2_errors_11 : decode cX2_errors 11 = .ok (.goto 4, 3) := by decide +kernel
theorem dX2_errors_14 : decode cX2_errors 14 = .ok (.iconst 1, 1) := by decide +kernel
theorem dX2_errors_15 : decode cX2_errors 15 = .ok (.putfield 43, 3) := by decide +kernel
theorem dX2_errors_18 : decode cX2_errors 18 = .ok (.aload_n 0, 1) := by decide +kernel
theorem dX2_errors_19 : decode cX2_errors 19 = .ok (.getfield 43, 3) := by decide +kernel
theorem dX2_errors_22 : decode cX2_errors 22 = .ok (.ifCond .eq 7, 3) := by decide +kernel
theorem dX2_errors_25 : decode cX2_errors 25 = .ok (.iconst 0, 1) := by decide +kernel
theorem dX2_errors_26 : decode cX2_errors 26 = .ok (.goto 9, 3) := by decide +kernel
theorem dX2_errors_29 : decode cX2_errors 29 = .ok (.aload_n 0, 1) := by decide +kernel
theorem dX2_errors_30 : decode cX2_errors 30 = .ok (.getfield 36, 3) := by decide +kernel
theorem dX2_errors_33 : decode cX2_errors 33 = .ok (.iload_n 1, 1) := by decide +kernel
theorem dX2_errors_34 : decode cX2_errors 34 = .ok (.iaload, 1) := by decide +kernel
theorem dX2_errors_35 : decode cX2_errors 35 = .ok (.ireturn, 1) := by decide +kernel
theorem dX2_count_0 : decode cX2_count 0 = .ok (.aload_n 0, 1) := by decide +kernel
theorem dX2_count_1 : decode cX2_count 1 = .ok (.iconst 0, 1) := by decide +kernel
theorem dX2_count_2 : decode cX2_count 2 = .ok (.putfield 43, 3) := by decide +kernel
theorem dX2_count_5 : decode cX2_count 5 = .ok (.iconst 0, 1) := by decide +kernel
theorem dX2_count_6 : decode cX2_count 6 = .ok (.istore_n 2, 1) := by decide +kernel
theorem dX2_count_7 : decode cX2_count 7 = .ok (.iload_n 1, 1) := by decide +kernel
theorem dX2_count_8 : decode cX2_count 8 = .ok (.tableswitch 147 0 5 #[40, 45, 50, 80, 117, 142], 40) := by decide +kernel
theorem dX2_count_48 : decode cX2_count 48 = .ok (.aload_n 0, 1) := by decide +kernel
theorem dX2_count_49 : decode cX2_count 49 = .ok (.getfield 39, 3) := by decide +kernel
theorem dX2_count_52 : decode cX2_count 52 = .ok (.ireturn, 1) := by decide +kernel
theorem dX2_count_53 : decode cX2_count 53 = .ok (.aload_n 0, 1) := by decide +kernel
theorem dX2_count_54 : decode cX2_count 54 = .ok (.getfield 50, 3) := by decide +kernel
theorem dX2_count_57 : decode cX2_count 57 = .ok (.ireturn, 1) := by decide +kernel
theorem dX2_count_58 : decode cX2_count 58 = .ok (.iconst 0, 1) := by decide +kernel
theorem dX2_count_59 : decode cX2_count 59 = .ok (.istore_n 3, 1) := by decide +kernel
theorem dX2_count_60 : decode cX2_count 60 = .ok (.iload_n 3, 1) := by decide +kernel
theorem dX2_count_61 : decode cX2_count 61 = .ok (.aload_n 0, 1) := by decide +kernel
theorem dX2_count_62 : decode cX2_count 62 = .ok (.getfield 39, 3) := by decide +kernel
theorem dX2_count_65 : decode cX2_count 65 = .ok (.if_icmp .ge 21, 3) := by decide +kernel
theorem dX2_count_68 : decode cX2_count 68 = .ok (.aload_n 0, 1) := by decide +kernel
theorem dX2_count_69 : decode cX2_count 69 = .ok (.iload_n 3, 1) := by decide +kernel
theorem dX2_count_70 : decode cX2_count 70 = .ok (.invokevirtual 60, 3) := by decide +kernel
theorem dX2_count_73 : decode cX2_count 73 = .ok (.iconst (-1), 1) := by decide +kernel
theorem dX2_count_74 : decode cX2_count 74 = .ok (.if_icmp .ne 6, 3) := by decide +kernel
theorem dX2_count_77 : decode cX2_count 77 = .ok (.iinc 2 1, 3) := by decide +kernel
theorem dX2_count_80 : decode cX2_count 80 = .ok (.iinc 3 1, 3) := by decide +kernel
theorem dX2_count_83 : decode cX2_count 83 = .ok (.goto (-23), 3) := by decide +kernel
theorem dX2_count_86 : decode cX2_count 86 = .ok (.iload_n 2, 1) := by decide +kernel
theorem dX2_count_87 : decode cX2_count 87 = .ok (.ireturn, 1) := by decide +kernel
theorem dX2_count_88 : decode cX2_count 88 = .ok (.iconst 0, 1) := by decide +kernel
theorem dX2_count_89 : decode cX2_count 89 = .ok (.istore_n 3, 1) := by decide +kernel
theorem dX2_count_90 : decode cX2_count 90 = .ok (.iload_n 3, 1) := by decide +kernel
theorem dX2_count_91 : decode cX2_count 91 = .ok (.aload_n 0, 1) := by decide +kernel
theorem dX2_count_92 : decode cX2_count 92 = .ok (.getfield 50, 3) := by decide +kernel
theorem dX2_count_95 : decode cX2_count 95 = .ok (.if_icmp .ge 28, 3) := by decide +kernel
theorem dX2_count_98 : decode cX2_count 98 = .ok (.aload_n 0, 1) := by decide +kernel
theorem dX2_count_99 : decode cX2_count 99 = .ok (.getfield 24, 3) := by decide +kernel
theorem dX2_count_102 : decode cX2_count 102 = .ok (.iload_n 3, 1) := by decide +kernel
theorem dX2_count_103 : decode cX2_count 103 = .ok (.iaload, 1) := by decide +kernel
theorem dX2_count_104 : decode cX2_count 104 = .ok (.iconst (-1), 1) := by decide +kernel
theorem dX2_count_105 : decode cX2_count 105 = .ok (.if_icmp .eq 12, 3) := by decide +kernel
theorem dX2_count_108 : decode cX2_count 108 = .ok (.iload_n 2, 1) := by decide +kernel
theorem dX2_count_109 : decode cX2_count 109 = .ok (.aload_n 0, 1) := by decide +kernel
theorem dX2_count_110 : decode cX2_count 110 = .ok (.iload_n 3, 1) := by decide +kernel
theorem dX2_count_111 : decode cX2_count 111 = .ok (.iconst 3, 1) := by decide +kernel
theorem dX2_count_112 : decode cX2_count 112 = .ok (.invokevirtual 87, 3) := by decide +kernel
theorem dX2_count_115 : decode cX2_count 115 = .ok (.iadd, 1) := by decide +kernel
theorem dX2_count_116 : decode cX2_count 116 = .ok (.istore_n 2, 1) := by decide +kernel
theorem dX2_count_117 : decode cX2_count 117 = .ok (.iinc 3 1, 3) := by decide +kernel
theorem dX2_count_120 : decode cX2_count 120 = .ok (.goto (-30), 3) := by decide +kernel
theorem dX2_count_123 : decode cX2_count 123 = .ok (.iload_n 2, 1) := by decide +kernel
theorem dX2_count_124 : decode cX2_count 124 = .ok (.ireturn, 1) := by decide +kernel
theorem dX2_count_125 : decode cX2_count 125 = .ok (.iconst 0, 1) := by decide +kernel
theorem dX2_count_126 : decode cX2_count 126 = .ok (.istore_n 3, 1) := by decide +kernel
theorem dX2_count_127 : decode cX2_count 127 = .ok (.iload_n 3, 1) := by decide +kernel
theorem dX2_count_128 : decode cX2_count 128 = .ok (.bipush 10, 2) := by decide +kernel
theorem dX2_count_130 : decode cX2_count 130 = .ok (.if_icmp .ge 18, 3) := by decide +kernel
theorem dX2_count_133 : decode cX2_count 133 = .ok (.iload_n 2, 1) := by decide +kernel
theorem dX2_count_134 : decode cX2_count 134 = .ok (.aload_n 0, 1) := by decide +kernel
theorem dX2_count_135 : decode cX2_count 135 = .ok (.getfield 13, 3) := by decide +kernel
theorem dX2_count_138 : decode cX2_count 138 = .ok (.iload_n 3, 1) := by decide +kernel
theorem dX2_count_139 : decode cX2_count 139 = .ok (.iaload, 1) := by decide +kernel
theorem dX2_count_140 : decode cX2_count 140 = .ok (.iadd, 1) := by decide +kernel
theorem dX2_count_141 : decode cX2_count 141 = .ok (.istore_n 2, 1) := by decide +kernel
theorem dX2_count_142 : decode cX2_count 142 = .ok (.iinc 3 1, 3) := by decide +kernel
theorem dX2_count_145 : decode cX2_count 145 = .ok (.goto (-18), 3) := by decide +kernel
theorem dX2_count_148 : decode cX2_count 148 = .ok (.iload_n 2, 1) := by decide +kernel
theorem dX2_count_149 : decode cX2_count 149 = .ok (.ireturn, 1) := by decide +kernel
theorem dX2_count_150 : decode cX2_count 150 = .ok (.aload_n 0, 1) := by decide +kernel
theorem dX2_count_151 : decode cX2_count 151 = .ok (.getfield 73, 3) := by decide +kernel
theorem dX2_count_154 : decode cX2_count 154 = .ok (.ireturn, 1) := by decide +kernel
theorem dX2_count_155 : decode cX2_count 155 = .ok (.iconst (-1), 1) := by decide +kernel
theorem dX2_count_156 : decode cX2_count 156 = .ok (.ireturn, 1) := by decide +kernel
