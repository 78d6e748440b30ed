theorem dX0_init_0 : decode cX0_init 0 = .ok (.aload_n 0, 1) := by decide +kernel
theorem dX0_init_1 : decode cX0_init 1 = .ok (.invokespecial 3, 3) := by decide +kernel
theorem dX0_init_4 : decode cX0_init 4 = .ok (.aload_n 0, 1) := by decide +kernel
theorem dX0_init_5 : decode cX0_init 5 = .ok (.iconst 0, 1) := by decide +kernel
theorem dX0_init_6 : decode cX0_init 6 = .ok (.putfield 9, 3) := by decide +kernel
theorem dX0_init_9 : decode cX0_init 9 = .ok (.aload_n 0, 1) := by decide +kernel
theorem dX0_init_10 : decode cX0_init 10 = .ok (.iconst (-1), 1) := by decide +kernel
theorem dX0_init_11 : decode cX0_init 11 = .ok (.putfield 15, 3) := by decide +kernel
theorem dX0_init_14 : decode cX0_init 14 = .ok (.aload_n 0, 1) := by decide +kernel
theorem dX0_init_15 : decode cX0_init 15 = .ok (.bipush 10, 2) := by decide +kernel
theorem dX0_init_17 : decode cX0_init 17 = .ok (.newarray .int, 2) := by decide +kernel
theorem dX0_init_19 : decode cX0_init 19 = .ok (.putfield 18, 3) := by decide +kernel
theorem dX0_init_22 : decode cX0_init 22 = .ok (.aload_n 0, 1) := by decide +kernel
theorem dX0_init_23 : decode cX0_init 23 = .ok (.bipush 10, 2) := by decide +kernel
theorem dX0_init_25 : decode cX0_init 25 = .ok (.newarray .int, 2) := by decide +kernel
theorem dX0_init_27 : decode cX0_init 27 = .ok (.putfield 22, 3) := by decide +kernel
theorem dX0_init_30 : decode cX0_init 30 = .ok (.aload_n 0, 1) := by decide +kernel
theorem dX0_init_31 : decode cX0_init 31 = .ok (.bipush 10, 2) := by decide +kernel
theorem dX0_init_33 : decode cX0_init 33 = .ok (.newarray .int, 2) := by decide +kernel
theorem dX0_init_35 : decode cX0_init 35 = .ok (.putfield 25, 3) := by decide +kernel
theorem dX0_init_38 : decode cX0_init 38 = .ok (.aload_n 0, 1) := by decide +kernel
theorem dX0_init_39 : decode cX0_init 39 = .ok (.iload_n 1, 1) := by decide +kernel
theorem dX0_init_40 : decode cX0_init 40 = .ok (.putfield 28, 3) := by decide +kernel
theorem dX0_init_43 : decode cX0_init 43 = .ok (.aload_n 0, 1) := by decide +kernel
theorem dX0_init_44 : decode cX0_init 44 = .ok (.getfield 25, 3) := by decide +kernel
theorem dX0_init_47 : decode cX0_init 47 = .ok (.iconst (-1), 1) := by decide +kernel
theorem dX0_init_48 : decode cX0_init 48 = .ok (.invokestatic 31, 3) := by decide +kernel
theorem dX0_init_51 : decode cX0_init 51 = .ok (.return_, 1) := by decide +kernel
theorem dX0_hasLine_0 : decode cX0_hasLine 0 = .ok (.aload_n 0, 1) := by decide +kernel
theorem dX0_hasLine_1 : decode cX0_hasLine 1 = .ok (.getfield 18, 3) := by decide +kernel
theorem dX0_hasLine_4 : decode cX0_hasLine 4 = .ok (.iload_n 1, 1) := by decide +kernel
theorem dX0_hasLine_5 : decode cX0_hasLine 5 = .ok (.iaload, 1) := by decide +kernel
theorem dX0_hasLine_6 : decode cX0_hasLine 6 = .ok (.ifCond .le 7, 3) := by decide +kernel
theorem dX0_hasLine_9 : decode cX0_hasLine 9 = .ok (.iconst 1, 1) := by decide +kernel
theorem dX0_hasLine_10 : decode cX0_hasLine 10 = .ok (.goto 4, 3) := by decide +kernel
theorem dX0_hasLine_13 : decode cX0_hasLine 13 = .ok (.iconst 0, 1) := by decide +kernel
theorem dX0_hasLine_14 : decode cX0_hasLine 14 = .ok (.ireturn, 1) := by decide +kernel
theorem dX0_missing_0 : decode cX0_missing 0 = .ok (.aload_n 0, 1) := by decide +kernel
theorem dX0_missing_1 : decode cX0_missing 1 = .ok (.getfield 18, 3) := by decide +kernel
theorem dX0_missing_4 : decode cX0_missing 4 = .ok (.iload_n 1, 1) := by decide +kernel
theorem dX0_missing_5 : decode cX0_missing 5 = .ok (.iaload, 1) := by decide +kernel
theorem dX0_missing_6 : decode cX0_missing 6 = .ok (.aload_n 0, 1) := by decide +kernel
theorem dX0_missing_7 : decode cX0_missing 7 = .ok (.getfield 22, 3) := by decide +kernel
theorem dX0_missing_10 : decode cX0_missing 10 = .ok (.iload_n 1, 1) := by decide +kernel
theorem dX0_missing_11 : decode cX0_missing 11 = .ok (.iaload, 1) := by decide +kernel
theorem dX0_missing_12 : decode cX0_missing 12 = .ok (.isub, 1) := by decide +kernel
theorem dX0_missing_13 : decode cX0_missing 13 = .ok (.ireturn, 1) := by decide +kernel
theorem dX0_givenUp_0 : decode cX0_givenUp 0 = .ok (.aload_n 0, 1) := by decide +kernel
theorem dX0_givenUp_1 : decode cX0_givenUp 1 = .ok (.getfield 25, 3) := by decide +kernel
theorem dX0_givenUp_4 : decode cX0_givenUp 4 = .ok (.iload_n 1, 1) := by decide +kernel
theorem dX0_givenUp_5 : decode cX0_givenUp 5 = .ok (.iaload, 1) := by decide +kernel
theorem dX0_givenUp_6 : decode cX0_givenUp 6 = .ok (.iconst (-1), 1) := by decide +kernel
theorem dX0_givenUp_7 : decode cX0_givenUp 7 = .ok (.if_icmp .eq 21, 3) := by decide +kernel
theorem dX0_givenUp_10 : decode cX0_givenUp 10 = .ok (.iload_n 2, 1) := by decide +kernel
theorem dX0_givenUp_11 : decode cX0_givenUp 11 = .ok (.aload_n 0, 1) := by decide +kernel
theorem dX0_givenUp_12 : decode cX0_givenUp 12 = .ok (.getfield 25, 3) := by decide +kernel
theorem dX0_givenUp_15 : decode cX0_givenUp 15 = .ok (.iload_n 1, 1) := by decide +kernel
theorem dX0_givenUp_16 : decode cX0_givenUp 16 = .ok (.iaload, 1) := by decide +kernel
theorem dX0_givenUp_17 : decode cX0_givenUp 17 = .ok (.if_icmp .le 11, 3) := by decide +kernel
theorem dX0_givenUp_20 : decode cX0_givenUp 20 = .ok (.aload_n 0, 1) := by decide +kernel
theorem dX0_givenUp_21 : decode cX0_givenUp 21 = .ok (.iload_n 1, 1) := by decide +kernel
theorem dX0_givenUp_22 : decode cX0_givenUp 22 = .ok (.invokevirtual 37, 3) := by decide +kernel
theorem dX0_givenUp_25 : decode cX0_givenUp 25 = .ok (.goto 4, 3) := by decide +kernel
theorem dX0_givenUp_28 : decode cX0_givenUp 28 = .ok (.iconst 0, 1) := by decide +kernel
theorem dX0_givenUp_29 : decode cX0_givenUp 29 = .ok (.ireturn, 1) := by decide +kernel
theorem dX0_lineCount_0 : decode cX0_lineCount 0 = .ok (.iconst 0, 1) := by decide +kernel
theorem dX0_lineCount_1 : decode cX0_lineCount 1 = .ok (.istore_n 1, 1) := by decide +kernel
theorem dX0_lineCount_2 : decode cX0_lineCount 2 = .ok (.iconst 0, 1) := by decide +kernel
theorem dX0_lineCount_3 : decode cX0_lineCount 3 = .ok (.istore_n 2, 1) := by decide +kernel
theorem dX0_lineCount_4 : decode cX0_lineCount 4 = .ok (.iload_n 2, 1) := by decide +kernel
theorem dX0_lineCount_5 : decode cX0_lineCount 5 = .ok (.bipush 10, 2) := by decide +kernel
theorem dX0_lineCount_7 : decode cX0_lineCount 7 = .ok (.if_icmp .ge 20, 3) := by decide +kernel
theorem dX0_lineCount_10 : decode cX0_lineCount 10 = .ok (.aload_n 0, 1) := by decide +kernel
theorem dX0_lineCount_11 : decode cX0_lineCount 11 = .ok (.iload_n 2, 1) := by decide +kernel
theorem dX0_lineCount_12 : decode cX0_lineCount 12 = .ok (.invokevirtual 41, 3) := by decide +kernel
theorem dX0_lineCount_15 : decode cX0_lineCount 15 = .ok (.ifCond .eq 6, 3) := by decide +kernel
theorem dX0_lineCount_18 : decode cX0_lineCount 18 = .ok (.iinc 1 1, 3) := by decide +kernel
theorem dX0_lineCount_21 : decode cX0_lineCount 21 = .ok (.iinc 2 1, 3) := by decide +kernel
theorem dX0_lineCount_24 : decode cX0_lineCount 24 = .ok (.goto (-20), 3) := by decide +kernel
theorem dX0_lineCount_27 : decode cX0_lineCount 27 = .ok (.iload_n 1, 1) := by decide +kernel
theorem dX0_lineCount_28 : decode cX0_lineCount 28 = .ok (.ireturn, 1) := by decide +kernel
theorem dX0_allGivenUp_0 : decode cX0_allGivenUp 0 = .ok (.iconst 0, 1) := by decide +kernel
theorem dX0_allGivenUp_1 : decode cX0_allGivenUp 1 = .ok (.istore_n 2, 1) := by decide +kernel
theorem dX0_allGivenUp_2 : decode cX0_allGivenUp 2 = .ok (.iconst 0, 1) := by decide +kernel
theorem dX0_allGivenUp_3 : decode cX0_allGivenUp 3 = .ok (.istore_n 3, 1) := by decide +kernel
theorem dX0_allGivenUp_4 : decode cX0_allGivenUp 4 = .ok (.iload_n 3, 1) := by decide +kernel
theorem dX0_allGivenUp_5 : decode cX0_allGivenUp 5 = .ok (.bipush 10, 2) := by decide +kernel
theorem dX0_allGivenUp_7 : decode cX0_allGivenUp 7 = .ok (.if_icmp .ge 18, 3) := by decide +kernel
theorem dX0_allGivenUp_10 : decode cX0_allGivenUp 10 = .ok (.iload_n 2, 1) := by decide +kernel
theorem dX0_allGivenUp_11 : decode cX0_allGivenUp 11 = .ok (.aload_n 0, 1) := by decide +kernel
theorem dX0_allGivenUp_12 : decode cX0_allGivenUp 12 = .ok (.iload_n 3, 1) := by decide +kernel
theorem dX0_allGivenUp_13 : decode cX0_allGivenUp 13 = .ok (.iload_n 1, 1) := by decide +kernel
theorem dX0_allGivenUp_14 : decode cX0_allGivenUp 14 = .ok (.invokevirtual 45, 3) := by decide +kernel
theorem dX0_allGivenUp_17 : decode cX0_allGivenUp 17 = .ok (.iadd, 1) := by decide +kernel
theorem dX0_allGivenUp_18 : decode cX0_allGivenUp 18 = .ok (.istore_n 2, 1) := by decide +kernel
theorem dX0_allGivenUp_19 : decode cX0_allGivenUp 19 = .ok (.iinc 3 1, 3) := by decide +kernel
theorem dX0_allGivenUp_22 : decode cX0_allGivenUp 22 = .ok (.goto (-18), 3) := by decide +kernel
theorem dX0_allGivenUp_25 : decode cX0_allGivenUp 25 = .ok (.iload_n 2, 1) := by decide +kernel
theorem dX0_allGivenUp_26 : decode cX0_allGivenUp 26 = .ok (.ireturn, 1) := by decide +kernel
theorem dX0_allWanted_0 : decode cX0_allWanted 0 = .ok (.aload_n 0, 1) := by decide +kernel
theorem dX0_allWanted_1 : decode cX0_allWanted 1 = .ok (.getfield 18, 3) := by decide +kernel
theorem dX0_allWanted_4 : decode cX0_allWanted 4 = .ok (.invokestatic 49, 3) := by decide +kernel
theorem dX0_allWanted_7 : decode cX0_allWanted 7 = .ok (.ireturn, 1) := by decide +kernel
theorem dX0_allPresent_0 : decode cX0_allPresent 0 = .ok (.aload_n 0, 1) := by decide +kernel
theorem dX0_allPresent_1 : decode cX0_allPresent 1 = .ok (.getfield 22, 3) := by decide +kernel
theorem dX0_allPresent_4 : decode cX0_allPresent 4 = .ok (.invokestatic 49, 3) := by decide +kernel
theorem dX0_allPresent_7 : decode cX0_allPresent 7 = .ok (.ireturn, 1) := by decide +kernel
theorem dX0_lacksNothing_0 : decode cX0_lacksNothing 0 = .ok (.iconst 0, 1) := by decide +kernel
theorem dX0_lacksNothing_1 : decode cX0_lacksNothing 1 = .ok (.istore_n 2, 1) := by decide +kernel
theorem dX0_lacksNothing_2 : decode cX0_lacksNothing 2 = .ok (.iload_n 2, 1) := by decide +kernel
theorem dX0_lacksNothing_3 : decode cX0_lacksNothing 3 = .ok (.bipush 10, 2) := by decide +kernel
theorem dX0_lacksNothing_5 : decode cX0_lacksNothing 5 = .ok (.if_icmp .ge 25, 3) := by decide +kernel
theorem dX0_lacksNothing_8 : decode cX0_lacksNothing 8 = .ok (.aload_n 0, 1) := by decide +kernel
theorem dX0_lacksNothing_9 : decode cX0_lacksNothing 9 = .ok (.iload_n 2, 1) := by decide +kernel
theorem dX0_lacksNothing_10 : decode cX0_lacksNothing 10 = .ok (.invokevirtual 37, 3) := by decide +kernel
theorem dX0_lacksNothing_13 : decode cX0_lacksNothing 13 = .ok (.aload_n 0, 1) := by decide +kernel
theorem dX0_lacksNothing_14 : decode cX0_lacksNothing 14 = .ok (.iload_n 2, 1) := by decide +kernel
theorem dX0_lacksNothing_15 : decode cX0_lacksNothing 15 = .ok (.iload_n 1, 1) := by decide +kernel
theorem dX0_lacksNothing_16 : decode cX0_lacksNothing 16 = .ok (.invokevirtual 45, 3) := by decide +kernel
theorem dX0_lacksNothing_19 : decode cX0_lacksNothing 19 = .ok (.if_icmp .le 5, 3) := by decide +kernel
theorem dX0_lacksNothing_22 : decode cX0_lacksNothing 22 = .ok (.iconst 0, 1) := by decide +kernel
theorem dX0_lacksNothing_23 : decode cX0_lacksNothing 23 = .ok (.ireturn, 1) := by decide +kernel
theorem dX0_lacksNothing_24 : decode cX0_lacksNothing 24 = .ok (.iinc 2 1, 3) := by decide +kernel
theorem dX0_lacksNothing_27 : decode cX0_lacksNothing 27 = .ok (.goto (-25), 3) := by decide +kernel
theorem dX0_lacksNothing_30 : decode cX0_lacksNothing 30 = .ok (.iconst 1, 1) := by decide +kernel
theorem dX0_lacksNothing_31 : decode cX0_lacksNothing 31 = .ok (.ireturn, 1) := by decide +kernel
theorem dX1_init_0 : decode cX1_init 0 = .ok (.aload_n 0, 1) := by decide +kernel
theorem dX1_init_1 : decode cX1_init 1 = .ok (.invokespecial 1, 3) := by decide +kernel
theorem dX1_init_4 : decode cX1_init 4 = .ok (.aload_n 0, 1) := by decide +kernel
theorem dX1_init_5 : decode cX1_init 5 = .ok (.bipush 20, 2) := by decide +kernel
theorem dX1_init_7 : decode cX1_init 7 = .ok (.anewarray 9, 3) := by decide +kernel
theorem dX1_init_10 : decode cX1_init 10 = .ok (.putfield 11, 3) := by decide +kernel
theorem dX1_init_13 : decode cX1_init 13 = .ok (.aload_n 0, 1) := by decide +kernel
theorem dX1_init_14 : decode cX1_init 14 = .ok (.iconst 0, 1) := by decide +kernel
theorem dX1_init_15 : decode cX1_init 15 = .ok (.putfield 15, 3) := by decide +kernel
theorem dX1_init_18 : decode cX1_init 18 = .ok (.aload_n 0, 1) := by decide +kernel
theorem dX1_init_19 : decode cX1_init 19 = .ok (.bipush 10, 2) := by decide +kernel
theorem dX1_init_21 : decode cX1_init 21 = .ok (.newarray .int, 2) := by decide +kernel
theorem dX1_init_23 : decode cX1_init 23 = .ok (.putfield 19, 3) := by decide +kernel
theorem dX1_init_26 : decode cX1_init 26 = .ok (.aload_n 0, 1) := by decide +kernel
theorem dX1_init_27 : decode cX1_init 27 = .ok (.bipush 8, 2) := by decide +kernel
theorem dX1_init_29 : decode cX1_init 29 = .ok (.newarray .int, 2) := by decide +kernel
theorem dX1_init_31 : decode cX1_init 31 = .ok (.putfield 23, 3) := by decide +kernel
theorem dX1_init_34 : decode cX1_init 34 = .ok (.aload_n 0, 1) := by decide +kernel
theorem dX1_init_35 : decode cX1_init 35 = .ok (.iconst 0, 1) := by decide +kernel
theorem dX1_init_36 : decode cX1_init 36 = .ok (.putfield 26, 3) := by decide +kernel
theorem dX1_init_39 : decode cX1_init 39 = .ok (.aload_n 0, 1) := by decide +kernel
theorem dX1_init_40 : decode cX1_init 40 = .ok (.iconst 1, 1) := by decide +kernel
theorem dX1_init_41 : decode cX1_init 41 = .ok (.putfield 29, 3) := by decide +kernel
theorem dX1_init_44 : decode cX1_init 44 = .ok (.iconst 0, 1) := by decide +kernel
theorem dX1_init_45 : decode cX1_init 45 = .ok (.bipush 16, 2) := by decide +kernel
theorem dX1_init_47 : decode cX1_init 47 = .ok (.iload_n 1, 1) := by decide +kernel
theorem dX1_init_48 : decode cX1_init 48 = .ok (.invokestatic 32, 3) := by decide +kernel
theorem dX1_init_51 : decode cX1_init 51 = .ok (.invokestatic 38, 3) := by decide +kernel
theorem dX1_init_54 : decode cX1_init 54 = .ok (.istore_n 2, 1) := by decide +kernel
theorem dX1_init_55 : decode cX1_init 55 = .ok (.aload_n 0, 1) := by decide +kernel
theorem dX1_init_56 : decode cX1_init 56 = .ok (.iload_n 2, 1) := by decide +kernel
theorem dX1_init_57 : decode cX1_init 57 = .ok (.anewarray 9, 3) := by decide +kernel
theorem dX1_init_60 : decode cX1_init 60 = .ok (.putfield 41, 3) := by decide +kernel
theorem dX1_init_63 : decode cX1_init 63 = .ok (.aload_n 0, 1) := by decide +kernel
theorem dX1_init_64 : decode cX1_init 64 = .ok (.iload_n 2, 1) := by decide +kernel
theorem dX1_init_65 : decode cX1_init 65 = .ok (.newarray .boolean, 2) := by decide +kernel
theorem dX1_init_67 : decode cX1_init 67 = .ok (.putfield 44, 3) := by decide +kernel
theorem dX1_init_70 : decode cX1_init 70 = .ok (.return_, 1) := by decide +kernel
theorem dX1_tote_0 : decode cX1_tote 0 = .ok (.iload_n 1, 1) := by decide +kernel
theorem dX1_tote_1 : decode cX1_tote 1 = .ok (.invokestatic 48, 3) := by decide +kernel
theorem dX1_tote_4 : decode cX1_tote 4 = .ok (.iload_n 2, 1) := by decide +kernel
theorem dX1_tote_5 : decode cX1_tote 5 = .ok (.iconst 1, 1) := by decide +kernel
theorem dX1_tote_6 : decode cX1_tote 6 = .ok (.bipush 100, 2) := by decide +kernel
theorem dX1_tote_8 : decode cX1_tote 8 = .ok (.invokestatic 52, 3) := by decide +kernel
theorem dX1_tote_11 : decode cX1_tote 11 = .ok (.aload_n 0, 1) := by decide +kernel
theorem dX1_tote_12 : decode cX1_tote 12 = .ok (.getfield 19, 3) := by decide +kernel
theorem dX1_tote_15 : decode cX1_tote 15 = .ok (.iload_n 1, 1) := by decide +kernel
theorem dX1_tote_16 : decode cX1_tote 16 = .ok (.dup2, 1) := by decide +kernel
theorem dX1_tote_17 : decode cX1_tote 17 = .ok (.iaload, 1) := by decide +kernel
theorem dX1_tote_18 : decode cX1_tote 18 = .ok (.iload_n 2, 1) := by decide +kernel
theorem dX1_tote_19 : decode cX1_tote 19 = .ok (.iadd, 1) := by decide +kernel
theorem dX1_tote_20 : decode cX1_tote 20 = .ok (.iastore, 1) := by decide +kernel
theorem dX1_tote_21 : decode cX1_tote 21 = .ok (.aload_n 0, 1) := by decide +kernel
theorem dX1_tote_22 : decode cX1_tote 22 = .ok (.getfield 19, 3) := by decide +kernel
theorem dX1_tote_25 : decode cX1_tote 25 = .ok (.iload_n 1, 1) := by decide +kernel
theorem dX1_tote_26 : decode cX1_tote 26 = .ok (.iaload, 1) := by decide +kernel
theorem dX1_tote_27 : decode cX1_tote 27 = .ok (.ireturn, 1) := by decide +kernel
theorem dX1_order_0 : decode cX1_order 0 = .ok (.aload_n 0, 1) := by decide +kernel
theorem dX1_order_1 : decode cX1_order 1 = .ok (.getfield 15, 3) := by decide +kernel
theorem dX1_order_4 : decode cX1_order 4 = .ok (.bipush 20, 2) := by decide +kernel
theorem dX1_order_6 : decode cX1_order 6 = .ok (.if_icmp .lt 13, 3) := by decide +kernel
theorem dX1_order_9 : decode cX1_order 9 = .ok (.new 56, 3) := by decide +kernel
theorem dX1_order_12 : decode cX1_order 12 = .ok (.dup, 1) := by decide +kernel
theorem dX1_order_13 : decode cX1_order 13 = .ok (.ldc 58, 2) := by decide +kernel
theorem dX1_order_15 : decode cX1_order 15 = .ok (.invokespecial 60, 3) := by decide +kernel
theorem dX1_order_18 : decode cX1_order 18 = .ok (.athrow, 1) := by decide +kernel
theorem dX1_order_19 : decode cX1_order 19 = .ok (.aload_n 0, 1) := by decide +kernel
theorem dX1_order_20 : decode cX1_order 20 = .ok (.getfield 15, 3) := by decide +kernel
theorem dX1_order_23 : decode cX1_order 23 = .ok (.istore_n 1, 1) := by decide +kernel
theorem dX1_order_24 : decode cX1_order 24 = .ok (.aload_n 0, 1) := by decide +kernel
theorem dX1_order_25 : decode cX1_order 25 = .ok (.getfield 11, 3) := by decide +kernel
theorem dX1_order_28 : decode cX1_order 28 = .ok (.iload_n 1, 1) := by decide +kernel
theorem dX1_order_29 : decode cX1_order 29 = .ok (.new 9, 3) := by decide +kernel
theorem dX1_order_32 : decode cX1_order 32 = .ok (.dup, 1) := by decide +kernel
theorem dX1_order_33 : decode cX1_order 33 = .ok (.iload_n 1, 1) := by decide +kernel
theorem dX1_order_34 : decode cX1_order 34 = .ok (.invokespecial 63, 3) := by decide +kernel
theorem dX1_order_37 : decode cX1_order 37 = .ok (.aastore, 1) := by decide +kernel
theorem dX1_order_38 : decode cX1_order 38 = .ok (.aload_n 0, 1) := by decide +kernel
theorem dX1_order_39 : decode cX1_order 39 = .ok (.dup, 1) := by decide +kernel
theorem dX1_order_40 : decode cX1_order 40 = .ok (.getfield 15, 3) := by decide +kernel
theorem dX1_order_43 : decode cX1_order 43 = .ok (.iconst 1, 1) := by decide +kernel
theorem dX1_order_44 : decode cX1_order 44 = .ok (.iadd, 1) := by decide +kernel
theorem dX1_order_45 : decode cX1_order 45 = .ok (.putfield 15, 3) := by decide +kernel
theorem dX1_order_48 : decode cX1_order 48 = .ok (.iload_n 1, 1) := by decide +kernel
theorem dX1_order_49 : decode cX1_order 49 = .ok (.ireturn, 1) := by decide +kernel
theorem dX1_line_0 : decode cX1_line 0 = .ok (.aload_n 0, 1) := by decide +kernel
theorem dX1_line_1 : decode cX1_line 1 = .ok (.iload_n 1, 1) := by decide +kernel
theorem dX1_line_2 : decode cX1_line 2 = .ok (.invokevirtual 65, 3) := by decide +kernel
theorem dX1_line_5 : decode cX1_line 5 = .ok (.astore 4, 2) := by decide +kernel
theorem dX1_line_7 : decode cX1_line 7 = .ok (.iload_n 2, 1) := by decide +kernel
theorem dX1_line_8 : decode cX1_line 8 = .ok (.invokestatic 48, 3) := by decide +kernel
theorem dX1_line_11 : decode cX1_line 11 = .ok (.iload_n 3, 1) := by decide +kernel
theorem dX1_line_12 : decode cX1_line 12 = .ok (.iconst 1, 1) := by decide +kernel
theorem dX1_line_13 : decode cX1_line 13 = .ok (.bipush 9, 2) := by decide +kernel
theorem dX1_line_15 : decode cX1_line 15 = .ok (.invokestatic 52, 3) := by decide +kernel
theorem dX1_line_18 : decode cX1_line 18 = .ok (.aload 4, 2) := by decide +kernel
theorem dX1_line_20 : decode cX1_line 20 = .ok (.getfield 69, 3) := by decide +kernel
theorem dX1_line_23 : decode cX1_line 23 = .ok (.ifCond .ne 16, 3) := by decide +kernel
theorem dX1_line_26 : decode cX1_line 26 = .ok (.aload 4, 2) := by decide +kernel
theorem dX1_line_28 : decode cX1_line 28 = .ok (.iload_n 2, 1) := by decide +kernel
theorem dX1_line_29 : decode cX1_line 29 = .ok (.invokevirtual 72, 3) := by decide +kernel
theorem dX1_line_32 : decode cX1_line 32 = .ok (.ifCond .ne 7, 3) := by decide +kernel
theorem dX1_line_35 : decode cX1_line 35 = .ok (.iconst 1, 1) := by decide +kernel
theorem dX1_line_36 : decode cX1_line 36 = .ok (.goto 4, 3) := by decide +kernel
theorem dX1_line_39 : decode cX1_line 39 = .ok (.iconst 0, 1) := by decide +kernel
theorem dX1_line_40 : decode cX1_line 40 = .ok (.invokestatic 76, 3) := by decide +kernel
theorem dX1_line_43 : decode cX1_line 43 = .ok (.aload 4, 2) := by decide +kernel
theorem dX1_line_45 : decode cX1_line 45 = .ok (.getfield 80, 3) := by decide +kernel
theorem dX1_line_48 : decode cX1_line 48 = .ok (.iload_n 2, 1) := by decide +kernel
theorem dX1_line_49 : decode cX1_line 49 = .ok (.iload_n 3, 1) := by decide +kernel
theorem dX1_line_50 : decode cX1_line 50 = .ok (.iastore, 1) := by decide +kernel
theorem dX1_line_51 : decode cX1_line 51 = .ok (.return_, 1) := by decide +kernel
theorem dX1_cell_0 : decode cX1_cell 0 = .ok (.aload_n 0, 1) := by decide +kernel
theorem dX1_cell_1 : decode cX1_cell 1 = .ok (.iload_n 1, 1) := by decide +kernel
theorem dX1_cell_2 : decode cX1_cell 2 = .ok (.invokevirtual 65, 3) := by decide +kernel
theorem dX1_cell_5 : decode cX1_cell 5 = .ok (.astore_n 2, 1) := by decide +kernel
theorem dX1_cell_6 : decode cX1_cell 6 = .ok (.aload_n 2, 1) := by decide +kernel
theorem dX1_cell_7 : decode cX1_cell 7 = .ok (.getfield 69, 3) := by decide +kernel
theorem dX1_cell_10 : decode cX1_cell 10 = .ok (.ifCond .ne 14, 3) := by decide +kernel
theorem dX1_cell_13 : decode cX1_cell 13 = .ok (.aload_n 2, 1) := by decide +kernel
theorem dX1_cell_14 : decode cX1_cell 14 = .ok (.invokevirtual 83, 3) := by decide +kernel
theorem dX1_cell_17 : decode cX1_cell 17 = .ok (.ifCond .le 7, 3) := by decide +kernel
theorem dX1_cell_20 : decode cX1_cell 20 = .ok (.iconst 1, 1) := by decide +kernel
theorem dX1_cell_21 : decode cX1_cell 21 = .ok (.goto 4, 3) := by decide +kernel
theorem dX1_cell_24 : decode cX1_cell 24 = .ok (.iconst 0, 1) := by decide +kernel
theorem dX1_cell_25 : decode cX1_cell 25 = .ok (.invokestatic 76, 3) := by decide +kernel
theorem dX1_cell_28 : decode cX1_cell 28 = .ok (.aload_n 0, 1) := by decide +kernel
theorem dX1_cell_29 : decode cX1_cell 29 = .ok (.invokevirtual 87, 3) := by decide +kernel
theorem dX1_cell_32 : decode cX1_cell 32 = .ok (.istore_n 3, 1) := by decide +kernel
theorem dX1_cell_33 : decode cX1_cell 33 = .ok (.iload_n 3, 1) := by decide +kernel
theorem dX1_cell_34 : decode cX1_cell 34 = .ok (.ifCond .lt 29, 3) := by decide +kernel
theorem dX1_cell_37 : decode cX1_cell 37 = .ok (.iload_n 3, 1) := by decide +kernel
theorem dX1_cell_38 : decode cX1_cell 38 = .ok (.aload_n 0, 1) := by decide +kernel
theorem dX1_cell_39 : decode cX1_cell 39 = .ok (.getfield 41, 3) := by decide +kernel
theorem dX1_cell_42 : decode cX1_cell 42 = .ok (.arraylength, 1) := by decide +kernel
theorem dX1_cell_43 : decode cX1_cell 43 = .ok (.if_icmp .ge 20, 3) := by decide +kernel
theorem dX1_cell_46 : decode cX1_cell 46 = .ok (.aload_n 0, 1) := by decide +kernel
theorem dX1_cell_47 : decode cX1_cell 47 = .ok (.getfield 41, 3) := by decide +kernel
theorem dX1_cell_50 : decode cX1_cell 50 = .ok (.iload_n 3, 1) := by decide +kernel
theorem dX1_cell_51 : decode cX1_cell 51 = .ok (.aload_n 2, 1) := by decide +kernel
theorem dX1_cell_52 : decode cX1_cell 52 = .ok (.aastore, 1) := by decide +kernel
theorem dX1_cell_53 : decode cX1_cell 53 = .ok (.aload_n 2, 1) := by decide +kernel
theorem dX1_cell_54 : decode cX1_cell 54 = .ok (.iload_n 3, 1) := by decide +kernel
theorem dX1_cell_55 : decode cX1_cell 55 = .ok (.putfield 90, 3) := by decide +kernel
theorem dX1_cell_58 : decode cX1_cell 58 = .ok (.aload_n 2, 1) := by decide +kernel
theorem dX1_cell_59 : decode cX1_cell 59 = .ok (.iconst 1, 1) := by decide +kernel
theorem dX1_cell_60 : decode cX1_cell 60 = .ok (.putfield 69, 3) := by decide +kernel
theorem dX1_cell_63 : decode cX1_cell 63 = .ok (.iload_n 3, 1) := by decide +kernel
theorem dX1_cell_64 : decode cX1_cell 64 = .ok (.ireturn, 1) := by decide +kernel
theorem dX1_light_0 : decode cX1_light 0 = .ok (.aload_n 0, 1) := by decide +kernel
theorem dX1_light_1 : decode cX1_light 1 = .ok (.iload_n 1, 1) := by decide +kernel
theorem dX1_light_2 : decode cX1_light 2 = .ok (.invokevirtual 93, 3) := by decide +kernel
theorem dX1_light_5 : decode cX1_light 5 = .ok (.aload_n 0, 1) := by decide +kernel
theorem dX1_light_6 : decode cX1_light 6 = .ok (.getfield 44, 3) := by decide +kernel
theorem dX1_light_9 : decode cX1_light 9 = .ok (.iload_n 1, 1) := by decide +kernel
theorem dX1_light_10 : decode cX1_light 10 = .ok (.baload, 1) := by decide +kernel
theorem dX1_light_11 : decode cX1_light 11 = .ok (.ifCond .ne 7, 3) := by decide +kernel
theorem dX1_light_14 : decode cX1_light 14 = .ok (.iconst 1, 1) := by decide +kernel
theorem dX1_light_15 : decode cX1_light 15 = .ok (.goto 4, 3) := by decide +kernel
theorem dX1_light_18 : decode cX1_light 18 = .ok (.iconst 0, 1) := by decide +kernel
theorem dX1_light_19 : decode cX1_light 19 = .ok (.istore_n 3, 1) := by decide +kernel
theorem dX1_light_20 : decode cX1_light 20 = .ok (.aload_n 0, 1) := by decide +kernel
theorem dX1_light_21 : decode cX1_light 21 = .ok (.getfield 44, 3) := by decide +kernel
theorem dX1_light_24 : decode cX1_light 24 = .ok (.iload_n 1, 1) := by decide +kernel
theorem dX1_light_25 : decode cX1_light 25 = .ok (.iload_n 2, 1) := by decide +kernel
theorem dX1_light_26 : decode cX1_light 26 = .ok (.ifCond .ne 7, 3) := by decide +kernel
theorem dX1_light_29 : decode cX1_light 29 = .ok (.iconst 1, 1) := by decide +kernel
theorem dX1_light_30 : decode cX1_light 30 = .ok (.goto 4, 3) := by decide +kernel
theorem dX1_light_33 : decode cX1_light 33 = .ok (.iconst 0, 1) := by decide +kernel
theorem dX1_light_34 : decode cX1_light 34 = .ok (.bastore, 1) := by decide +kernel
theorem dX1_light_35 : decode cX1_light 35 = .ok (.iload_n 3, 1) := by decide +kernel
theorem dX1_light_36 : decode cX1_light 36 = .ok (.ireturn, 1) := by decide +kernel
theorem dX1_scan_0 : decode cX1_scan 0 = .ok (.aload_n 0, 1) := by decide +kernel
theorem dX1_scan_1 : decode cX1_scan 1 = .ok (.iload_n 1, 1) := by decide +kernel
theorem dX1_scan_2 : decode cX1_scan 2 = .ok (.invokevirtual 93, 3) := by decide +kernel
theorem dX1_scan_5 : decode cX1_scan 5 = .ok (.iload_n 2, 1) := by decide +kernel
theorem dX1_scan_6 : decode cX1_scan 6 = .ok (.invokestatic 48, 3) := by decide +kernel
theorem dX1_scan_9 : decode cX1_scan 9 = .ok (.iload_n 3, 1) := by decide +kernel
theorem dX1_scan_10 : decode cX1_scan 10 = .ok (.invokestatic 96, 3) := by decide +kernel
theorem dX1_scan_13 : decode cX1_scan 13 = .ok (.aload_n 0, 1) := by decide +kernel
theorem dX1_scan_14 : decode cX1_scan 14 = .ok (.aload_n 0, 1) := by decide +kernel
theorem dX1_scan_15 : decode cX1_scan 15 = .ok (.getfield 41, 3) := by decide +kernel
theorem dX1_scan_18 : decode cX1_scan 18 = .ok (.iload_n 1, 1) := by decide +kernel
theorem dX1_scan_19 : decode cX1_scan 19 = .ok (.aaload, 1) := by decide +kernel
theorem dX1_scan_20 : decode cX1_scan 20 = .ok (.aload_n 0, 1) := by decide +kernel
theorem dX1_scan_21 : decode cX1_scan 21 = .ok (.getfield 44, 3) := by decide +kernel
theorem dX1_scan_24 : decode cX1_scan 24 = .ok (.iload_n 1, 1) := by decide +kernel
theorem dX1_scan_25 : decode cX1_scan 25 = .ok (.baload, 1) := by decide +kernel
theorem dX1_scan_26 : decode cX1_scan 26 = .ok (.iload_n 2, 1) := by decide +kernel
theorem dX1_scan_27 : decode cX1_scan 27 = .ok (.invokevirtual 99, 3) := by decide +kernel
theorem dX1_scan_30 : decode cX1_scan 30 = .ok (.istore 4, 2) := by decide +kernel
theorem dX1_scan_32 : decode cX1_scan 32 = .ok (.iload 4, 2) := by decide +kernel
theorem dX1_scan_34 : decode cX1_scan 34 = .ok (.ifCond .ge 13, 3) := by decide +kernel
theorem dX1_scan_37 : decode cX1_scan 37 = .ok (.aload_n 0, 1) := by decide +kernel
theorem dX1_scan_38 : decode cX1_scan 38 = .ok (.getfield 23, 3) := by decide +kernel
theorem dX1_scan_41 : decode cX1_scan 41 = .ok (.iload_n 3, 1) := by decide +kernel
theorem dX1_scan_42 : decode cX1_scan 42 = .ok (.dup2, 1) := by decide +kernel
theorem dX1_scan_43 : decode cX1_scan 43 = .ok (.iaload, 1) := by decide +kernel
theorem dX1_scan_44 : decode cX1_scan 44 = .ok (.iconst 1, 1) := by decide +kernel
theorem dX1_scan_45 : decode cX1_scan 45 = .ok (.iadd, 1) := by decide +kernel
theorem dX1_scan_46 : decode cX1_scan 46 = .ok (.iastore, 1) := by decide +kernel
theorem dX1_scan_47 : decode cX1_scan 47 = .ok (.iload 4, 2) := by decide +kernel
theorem dX1_scan_49 : decode cX1_scan 49 = .ok (.ireturn, 1) := by decide +kernel
theorem dX1_undo_0 : decode cX1_undo 0 = .ok (.aload_n 0, 1) := by decide +kernel
theorem dX1_undo_1 : decode cX1_undo 1 = .ok (.iload_n 1, 1) := by decide +kernel
theorem dX1_undo_2 : decode cX1_undo 2 = .ok (.invokevirtual 93, 3) := by decide +kernel
theorem dX1_undo_5 : decode cX1_undo 5 = .ok (.iload_n 2, 1) := by decide +kernel
theorem dX1_undo_6 : decode cX1_undo 6 = .ok (.invokestatic 48, 3) := by decide +kernel
theorem dX1_undo_9 : decode cX1_undo 9 = .ok (.aload_n 0, 1) := by decide +kernel
theorem dX1_undo_10 : decode cX1_undo 10 = .ok (.getfield 41, 3) := by decide +kernel
theorem dX1_undo_13 : decode cX1_undo 13 = .ok (.iload_n 1, 1) := by decide +kernel
theorem dX1_undo_14 : decode cX1_undo 14 = .ok (.aaload, 1) := by decide +kernel
theorem dX1_undo_15 : decode cX1_undo 15 = .ok (.astore_n 3, 1) := by decide +kernel
theorem dX1_undo_16 : decode cX1_undo 16 = .ok (.aload_n 3, 1) := by decide +kernel
theorem dX1_undo_17 : decode cX1_undo 17 = .ok (.ifnull 20, 3) := by decide +kernel
theorem dX1_undo_20 : decode cX1_undo 20 = .ok (.aload_n 3, 1) := by decide +kernel
theorem dX1_undo_21 : decode cX1_undo 21 = .ok (.getfield 69, 3) := by decide +kernel
theorem dX1_undo_24 : decode cX1_undo 24 = .ok (.iconst 2, 1) := by decide +kernel
theorem dX1_undo_25 : decode cX1_undo 25 = .ok (.if_icmp .eq 12, 3) := by decide +kernel
theorem dX1_undo_28 : decode cX1_undo 28 = .ok (.aload_n 3, 1) := by decide +kernel
theorem dX1_undo_29 : decode cX1_undo 29 = .ok (.getfield 103, 3) := by decide +kernel
theorem dX1_undo_32 : decode cX1_undo 32 = .ok (.iload_n 2, 1) := by decide +kernel
theorem dX1_undo_33 : decode cX1_undo 33 = .ok (.iaload, 1) := by decide +kernel
theorem dX1_undo_34 : decode cX1_undo 34 = .ok (.ifCond .ne 13, 3) := by decide +kernel
theorem dX1_undo_37 : decode cX1_undo 37 = .ok (.new 106, 3) := by decide +kernel
theorem dX1_undo_40 : decode cX1_undo 40 = .ok (.dup, 1) := by decide +kernel
theorem dX1_undo_41 : decode cX1_undo 41 = .ok (.ldc 108, 2) := by decide +kernel
theorem dX1_undo_43 : decode cX1_undo 43 = .ok (.invokespecial 110, 3) := by decide +kernel
theorem dX1_undo_46 : decode cX1_undo 46 = .ok (.athrow, 1) := by decide +kernel
theorem dX1_undo_47 : decode cX1_undo 47 = .ok (.aload_n 3, 1) := by decide +kernel
theorem dX1_undo_48 : decode cX1_undo 48 = .ok (.getfield 103, 3) := by decide +kernel
theorem dX1_undo_51 : decode cX1_undo 51 = .ok (.iload_n 2, 1) := by decide +kernel
theorem dX1_undo_52 : decode cX1_undo 52 = .ok (.dup2, 1) := by decide +kernel
theorem dX1_undo_53 : decode cX1_undo 53 = .ok (.iaload, 1) := by decide +kernel
theorem dX1_undo_54 : decode cX1_undo 54 = .ok (.iconst 1, 1) := by decide +kernel
theorem dX1_undo_55 : decode cX1_undo 55 = .ok (.isub, 1) := by decide +kernel
theorem dX1_undo_56 : decode cX1_undo 56 = .ok (.iastore, 1) := by decide +kernel
theorem dX1_undo_57 : decode cX1_undo 57 = .ok (.aload_n 0, 1) := by decide +kernel
theorem dX1_undo_58 : decode cX1_undo 58 = .ok (.getfield 19, 3) := by decide +kernel
theorem dX1_undo_61 : decode cX1_undo 61 = .ok (.iload_n 2, 1) := by decide +kernel
theorem dX1_undo_62 : decode cX1_undo 62 = .ok (.dup2, 1) := by decide +kernel
theorem dX1_undo_63 : decode cX1_undo 63 = .ok (.iaload, 1) := by decide +kernel
theorem dX1_undo_64 : decode cX1_undo 64 = .ok (.iconst 1, 1) := by decide +kernel
theorem dX1_undo_65 : decode cX1_undo 65 = .ok (.iadd, 1) := by decide +kernel
theorem dX1_undo_66 : decode cX1_undo 66 = .ok (.iastore, 1) := by decide +kernel
theorem dX1_undo_67 : decode cX1_undo 67 = .ok (.aload_n 3, 1) := by decide +kernel
theorem dX1_undo_68 : decode cX1_undo 68 = .ok (.getfield 103, 3) := by decide +kernel
theorem dX1_undo_71 : decode cX1_undo 71 = .ok (.iload_n 2, 1) := by decide +kernel
theorem dX1_undo_72 : decode cX1_undo 72 = .ok (.iaload, 1) := by decide +kernel
theorem dX1_undo_73 : decode cX1_undo 73 = .ok (.ireturn, 1) := by decide +kernel
theorem dX1_miss_0 : decode cX1_miss 0 = .ok (.aload_n 0, 1) := by decide +kernel
theorem dX1_miss_1 : decode cX1_miss 1 = .ok (.iload_n 1, 1) := by decide +kernel
theorem dX1_miss_2 : decode cX1_miss 2 = .ok (.invokevirtual 65, 3) := by decide +kernel
theorem dX1_miss_5 : decode cX1_miss 5 = .ok (.astore 4, 2) := by decide +kernel
theorem dX1_miss_7 : decode cX1_miss 7 = .ok (.aload 4, 2) := by decide +kernel
theorem dX1_miss_9 : decode cX1_miss 9 = .ok (.iload_n 2, 1) := by decide +kernel
theorem dX1_miss_10 : decode cX1_miss 10 = .ok (.invokestatic 111, 3) := by decide +kernel
theorem dX1_miss_13 : decode cX1_miss 13 = .ok (.iload_n 3, 1) := by decide +kernel
theorem dX1_miss_14 : decode cX1_miss 14 = .ok (.iconst 0, 1) := by decide +kernel
theorem dX1_miss_15 : decode cX1_miss 15 = .ok (.sipush 10000, 3) := by decide +kernel
theorem dX1_miss_18 : decode cX1_miss 18 = .ok (.invokestatic 52, 3) := by decide +kernel
theorem dX1_miss_21 : decode cX1_miss 21 = .ok (.aload 4, 2) := by decide +kernel
theorem dX1_miss_23 : decode cX1_miss 23 = .ok (.getfield 69, 3) := by decide +kernel
theorem dX1_miss_26 : decode cX1_miss 26 = .ok (.iconst 1, 1) := by decide +kernel
theorem dX1_miss_27 : decode cX1_miss 27 = .ok (.if_icmp .ne 16, 3) := by decide +kernel
theorem dX1_miss_30 : decode cX1_miss 30 = .ok (.aload 4, 2) := by decide +kernel
theorem dX1_miss_32 : decode cX1_miss 32 = .ok (.iload_n 2, 1) := by decide +kernel
theorem dX1_miss_33 : decode cX1_miss 33 = .ok (.invokevirtual 115, 3) := by decide +kernel
theorem dX1_miss_36 : decode cX1_miss 36 = .ok (.ifCond .le 7, 3) := by decide +kernel
theorem dX1_miss_39 : decode cX1_miss 39 = .ok (.iconst 1, 1) := by decide +kernel
theorem dX1_miss_40 : decode cX1_miss 40 = .ok (.goto 4, 3) := by decide +kernel
theorem dX1_miss_43 : decode cX1_miss 43 = .ok (.iconst 0, 1) := by decide +kernel
theorem dX1_miss_44 : decode cX1_miss 44 = .ok (.invokestatic 76, 3) := by decide +kernel
theorem dX1_miss_47 : decode cX1_miss 47 = .ok (.aload 4, 2) := by decide +kernel
theorem dX1_miss_49 : decode cX1_miss 49 = .ok (.getfield 119, 3) := by decide +kernel
theorem dX1_miss_52 : decode cX1_miss 52 = .ok (.iload_n 2, 1) := by decide +kernel
theorem dX1_miss_53 : decode cX1_miss 53 = .ok (.iload_n 3, 1) := by decide +kernel
theorem dX1_miss_54 : decode cX1_miss 54 = .ok (.iastore, 1) := by decide +kernel
theorem dX1_miss_55 : decode cX1_miss 55 = .ok (.aload 4, 2) := by decide +kernel
theorem dX1_miss_57 : decode cX1_miss 57 = .ok (.iload_n 2, 1) := by decide +kernel
theorem dX1_miss_58 : decode cX1_miss 58 = .ok (.invokevirtual 115, 3) := by decide +kernel
theorem dX1_miss_61 : decode cX1_miss 61 = .ok (.ireturn, 1) := by decide +kernel
theorem dX1_day_0 : decode cX1_day 0 = .ok (.iload_n 1, 1) := by decide +kernel
theorem dX1_day_1 : decode cX1_day 1 = .ok (.iconst 0, 1) := by decide +kernel
theorem dX1_day_2 : decode cX1_day 2 = .ok (.sipush 10000, 3) := by decide +kernel
theorem dX1_day_5 : decode cX1_day 5 = .ok (.invokestatic 52, 3) := by decide +kernel
theorem dX1_day_8 : decode cX1_day 8 = .ok (.iload_n 1, 1) := by decide +kernel
theorem dX1_day_9 : decode cX1_day 9 = .ok (.aload_n 0, 1) := by decide +kernel
theorem dX1_day_10 : decode cX1_day 10 = .ok (.getfield 26, 3) := by decide +kernel
theorem dX1_day_13 : decode cX1_day 13 = .ok (.if_icmp .lt 7, 3) := by decide +kernel
theorem dX1_day_16 : decode cX1_day 16 = .ok (.iconst 1, 1) := by decide +kernel
theorem dX1_day_17 : decode cX1_day 17 = .ok (.goto 4, 3) := by decide +kernel
theorem dX1_day_20 : decode cX1_day 20 = .ok (.iconst 0, 1) := by decide +kernel
theorem dX1_day_21 : decode cX1_day 21 = .ok (.invokestatic 76, 3) := by decide +kernel
theorem dX1_day_24 : decode cX1_day 24 = .ok (.aload_n 0, 1) := by decide +kernel
theorem dX1_day_25 : decode cX1_day 25 = .ok (.iload_n 1, 1) := by decide +kernel
theorem dX1_day_26 : decode cX1_day 26 = .ok (.putfield 26, 3) := by decide +kernel
theorem dX1_day_29 : decode cX1_day 29 = .ok (.return_, 1) := by decide +kernel
theorem dX1_change_0 : decode cX1_change 0 = .ok (.aload_n 0, 1) := by decide +kernel
theorem dX1_change_1 : decode cX1_change 1 = .ok (.iload_n 1, 1) := by decide +kernel
theorem dX1_change_2 : decode cX1_change 2 = .ok (.invokevirtual 65, 3) := by decide +kernel
theorem dX1_change_5 : decode cX1_change 5 = .ok (.astore 4, 2) := by decide +kernel
theorem dX1_change_7 : decode cX1_change 7 = .ok (.aload 4, 2) := by decide +kernel
theorem dX1_change_9 : decode cX1_change 9 = .ok (.iload_n 2, 1) := by decide +kernel
theorem dX1_change_10 : decode cX1_change 10 = .ok (.invokestatic 111, 3) := by decide +kernel
theorem dX1_change_13 : decode cX1_change 13 = .ok (.iload_n 3, 1) := by decide +kernel
theorem dX1_change_14 : decode cX1_change 14 = .ok (.iconst 0, 1) := by decide +kernel
theorem dX1_change_15 : decode cX1_change 15 = .ok (.bipush 9, 2) := by decide +kernel
theorem dX1_change_17 : decode cX1_change 17 = .ok (.invokestatic 52, 3) := by decide +kernel
theorem dX1_change_20 : decode cX1_change 20 = .ok (.iload_n 3, 1) := by decide +kernel
theorem dX1_change_21 : decode cX1_change 21 = .ok (.ifCond .ne 25, 3) := by decide +kernel
theorem dX1_change_24 : decode cX1_change 24 = .ok (.aload 4, 2) := by decide +kernel
theorem dX1_change_26 : decode cX1_change 26 = .ok (.getfield 69, 3) := by decide +kernel
theorem dX1_change_29 : decode cX1_change 29 = .ok (.iconst 1, 1) := by decide +kernel
theorem dX1_change_30 : decode cX1_change 30 = .ok (.if_icmp .ne 16, 3) := by decide +kernel
theorem dX1_change_33 : decode cX1_change 33 = .ok (.aload 4, 2) := by decide +kernel
theorem dX1_change_35 : decode cX1_change 35 = .ok (.invokevirtual 83, 3) := by decide +kernel
theorem dX1_change_38 : decode cX1_change 38 = .ok (.iconst 1, 1) := by decide +kernel
theorem dX1_change_39 : decode cX1_change 39 = .ok (.if_icmp .ne 7, 3) := by decide +kernel
theorem dX1_change_42 : decode cX1_change 42 = .ok (.iconst 1, 1) := by decide +kernel
theorem dX1_change_43 : decode cX1_change 43 = .ok (.goto 4, 3) := by decide +kernel
theorem dX1_change_46 : decode cX1_change 46 = .ok (.iconst 0, 1) := by decide +kernel
theorem dX1_change_47 : decode cX1_change 47 = .ok (.istore 5, 2) := by decide +kernel
theorem dX1_change_49 : decode cX1_change 49 = .ok (.aload 4, 2) := by decide +kernel
theorem dX1_change_51 : decode cX1_change 51 = .ok (.getfield 69, 3) := by decide +kernel
theorem dX1_change_54 : decode cX1_change 54 = .ok (.ifCond .eq 12, 3) := by decide +kernel
theorem dX1_change_57 : decode cX1_change 57 = .ok (.aload 4, 2) := by decide +kernel
theorem dX1_change_59 : decode cX1_change 59 = .ok (.getfield 69, 3) := by decide +kernel
theorem dX1_change_62 : decode cX1_change 62 = .ok (.iconst 1, 1) := by decide +kernel
theorem dX1_change_63 : decode cX1_change 63 = .ok (.if_icmp .ne 12, 3) := by decide +kernel
theorem dX1_change_66 : decode cX1_change 66 = .ok (.iload 5, 2) := by decide +kernel
theorem dX1_change_68 : decode cX1_change 68 = .ok (.ifCond .ne 7, 3) := by decide +kernel
theorem dX1_change_71 : decode cX1_change 71 = .ok (.iconst 1, 1) := by decide +kernel
theorem dX1_change_72 : decode cX1_change 72 = .ok (.goto 4, 3) := by decide +kernel
theorem dX1_change_75 : decode cX1_change 75 = .ok (.iconst 0, 1) := by decide +kernel
theorem dX1_change_76 : decode cX1_change 76 = .ok (.invokestatic 76, 3) := by decide +kernel
theorem dX1_change_79 : decode cX1_change 79 = .ok (.aload 4, 2) := by decide +kernel
theorem dX1_change_81 : decode cX1_change 81 = .ok (.getfield 103, 3) := by decide +kernel
theorem dX1_change_84 : decode cX1_change 84 = .ok (.iload_n 2, 1) := by decide +kernel
theorem dX1_change_85 : decode cX1_change 85 = .ok (.iaload, 1) := by decide +kernel
theorem dX1_change_86 : decode cX1_change 86 = .ok (.iload_n 3, 1) := by decide +kernel
theorem dX1_change_87 : decode cX1_change 87 = .ok (.if_icmp .le 5, 3) := by decide +kernel
theorem dX1_change_90 : decode cX1_change 90 = .ok (.iconst 0, 1) := by decide +kernel
theorem dX1_change_91 : decode cX1_change 91 = .ok (.ireturn, 1) := by decide +kernel
theorem dX1_change_92 : decode cX1_change 92 = .ok (.aload 4, 2) := by decide +kernel
theorem dX1_change_94 : decode cX1_change 94 = .ok (.getfield 80, 3) := by decide +kernel
theorem dX1_change_97 : decode cX1_change 97 = .ok (.iload_n 2, 1) := by decide +kernel
theorem dX1_change_98 : decode cX1_change 98 = .ok (.iload_n 3, 1) := by decide +kernel
theorem dX1_change_99 : decode cX1_change 99 = .ok (.iastore, 1) := by decide +kernel
theorem dX1_change_100 : decode cX1_change 100 = .ok (.iconst 1, 1) := by decide +kernel
theorem dX1_change_101 : decode cX1_change 101 = .ok (.ireturn, 1) := by decide +kernel
theorem dX1_complete_0 : decode cX1_complete 0 = .ok (.aload_n 0, 1) := by decide +kernel
theorem dX1_complete_1 : decode cX1_complete 1 = .ok (.iload_n 1, 1) := by decide +kernel
theorem dX1_complete_2 : decode cX1_complete 2 = .ok (.invokevirtual 65, 3) := by decide +kernel
theorem dX1_complete_5 : decode cX1_complete 5 = .ok (.astore_n 2, 1) := by decide +kernel
theorem dX1_complete_6 : decode cX1_complete 6 = .ok (.aload_n 2, 1) := by decide +kernel
theorem dX1_complete_7 : decode cX1_complete 7 = .ok (.getfield 69, 3) := by decide +kernel
theorem dX1_complete_10 : decode cX1_complete 10 = .ok (.iconst 1, 1) := by decide +kernel
theorem dX1_complete_11 : decode cX1_complete 11 = .ok (.if_icmp .ne 7, 3) := by decide +kernel
theorem dX1_complete_14 : decode cX1_complete 14 = .ok (.iconst 1, 1) := by decide +kernel
theorem dX1_complete_15 : decode cX1_complete 15 = .ok (.goto 4, 3) := by decide +kernel
theorem dX1_complete_18 : decode cX1_complete 18 = .ok (.iconst 0, 1) := by decide +kernel
theorem dX1_complete_19 : decode cX1_complete 19 = .ok (.invokestatic 76, 3) := by decide +kernel
theorem dX1_complete_22 : decode cX1_complete 22 = .ok (.aload_n 2, 1) := by decide +kernel
theorem dX1_complete_23 : decode cX1_complete 23 = .ok (.aload_n 0, 1) := by decide +kernel
theorem dX1_complete_24 : decode cX1_complete 24 = .ok (.getfield 26, 3) := by decide +kernel
theorem dX1_complete_27 : decode cX1_complete 27 = .ok (.invokevirtual 122, 3) := by decide +kernel
theorem dX1_complete_30 : decode cX1_complete 30 = .ok (.ifCond .ne 5, 3) := by decide +kernel
theorem dX1_complete_33 : decode cX1_complete 33 = .ok (.iconst 0, 1) := by decide +kernel
theorem dX1_complete_34 : decode cX1_complete 34 = .ok (.ireturn, 1) := by decide +kernel
theorem dX1_complete_35 : decode cX1_complete 35 = .ok (.aload_n 2, 1) := by decide +kernel
theorem dX1_complete_36 : decode cX1_complete 36 = .ok (.iconst 2, 1) := by decide +kernel
theorem dX1_complete_37 : decode cX1_complete 37 = .ok (.putfield 69, 3) := by decide +kernel
theorem dX1_complete_40 : decode cX1_complete 40 = .ok (.iconst 1, 1) := by decide +kernel
theorem dX1_complete_41 : decode cX1_complete 41 = .ok (.ireturn, 1) := by decide +kernel
theorem dX1_release_0 : decode cX1_release 0 = .ok (.aload_n 0, 1) := by decide +kernel
theorem dX1_release_1 : decode cX1_release 1 = .ok (.iload_n 1, 1) := by decide +kernel
theorem dX1_release_2 : decode cX1_release 2 = .ok (.invokevirtual 93, 3) := by decide +kernel
theorem dX1_release_5 : decode cX1_release 5 = .ok (.aload_n 0, 1) := by decide +kernel
theorem dX1_release_6 : decode cX1_release 6 = .ok (.getfield 41, 3) := by decide +kernel
theorem dX1_release_9 : decode cX1_release 9 = .ok (.iload_n 1, 1) := by decide +kernel
theorem dX1_release_10 : decode cX1_release 10 = .ok (.aaload, 1) := by decide +kernel
theorem dX1_release_11 : decode cX1_release 11 = .ok (.astore_n 2, 1) := by decide +kernel
theorem dX1_release_12 : decode cX1_release 12 = .ok (.aload_n 2, 1) := by decide +kernel
theorem dX1_release_13 : decode cX1_release 13 = .ok (.ifnonnull 13, 3) := by decide +kernel
theorem dX1_release_16 : decode cX1_release 16 = .ok (.new 106, 3) := by decide +kernel
theorem dX1_release_19 : decode cX1_release 19 = .ok (.dup, 1) := by decide +kernel
theorem dX1_release_20 : decode cX1_release 20 = .ok (.ldc 125, 2) := by decide +kernel
theorem dX1_release_22 : decode cX1_release 22 = .ok (.invokespecial 110, 3) := by decide +kernel
theorem dX1_release_25 : decode cX1_release 25 = .ok (.athrow, 1) := by decide +kernel
theorem dX1_release_26 : decode cX1_release 26 = .ok (.aload_n 2, 1) := by decide +kernel
theorem dX1_release_27 : decode cX1_release 27 = .ok (.getfield 69, 3) := by decide +kernel
theorem dX1_release_30 : decode cX1_release 30 = .ok (.iconst 2, 1) := by decide +kernel
theorem dX1_release_31 : decode cX1_release 31 = .ok (.if_icmp .eq 5, 3) := by decide +kernel
theorem dX1_release_34 : decode cX1_release 34 = .ok (.iconst 0, 1) := by decide +kernel
theorem dX1_release_35 : decode cX1_release 35 = .ok (.ireturn, 1) := by decide +kernel
theorem dX1_release_36 : decode cX1_release 36 = .ok (.aload_n 2, 1) := by decide +kernel
theorem dX1_release_37 : decode cX1_release 37 = .ok (.iconst 3, 1) := by decide +kernel
theorem dX1_release_38 : decode cX1_release 38 = .ok (.putfield 69, 3) := by decide +kernel
theorem dX1_release_41 : decode cX1_release 41 = .ok (.aload_n 2, 1) := by decide +kernel
theorem dX1_release_42 : decode cX1_release 42 = .ok (.iconst (-1), 1) := by decide +kernel
theorem dX1_release_43 : decode cX1_release 43 = .ok (.putfield 90, 3) := by decide +kernel
theorem dX1_release_46 : decode cX1_release 46 = .ok (.aload_n 0, 1) := by decide +kernel
theorem dX1_release_47 : decode cX1_release 47 = .ok (.getfield 41, 3) := by decide +kernel
theorem dX1_release_50 : decode cX1_release 50 = .ok (.iload_n 1, 1) := by decide +kernel
theorem dX1_release_51 : decode cX1_release 51 = .ok (.aconst_null, 1) := by decide +kernel
theorem dX1_release_52 : decode cX1_release 52 = .ok (.aastore, 1) := by decide +kernel
theorem dX1_release_53 : decode cX1_release 53 = .ok (.iconst 1, 1) := by decide +kernel
theorem dX1_release_54 : decode cX1_release 54 = .ok (.ireturn, 1) := by decide +kernel
theorem dX1_sample_0 : decode cX1_sample 0 = .ok (.aload_n 0, 1) := by decide +kernel
theorem dX1_sample_1 : decode cX1_sample 1 = .ok (.invokevirtual 127, 3) := by decide +kernel
theorem dX1_sample_4 : decode cX1_sample 4 = .ok (.istore_n 1, 1) := by decide +kernel
theorem dX1_sample_5 : decode cX1_sample 5 = .ok (.iload_n 1, 1) := by decide +kernel
theorem dX1_sample_6 : decode cX1_sample 6 = .ok (.ifCond .ne 5, 3) := by decide +kernel
theorem dX1_sample_9 : decode cX1_sample 9 = .ok (.iconst (-1), 1) := by decide +kernel
theorem dX1_sample_10 : decode cX1_sample 10 = .ok (.ireturn, 1) := by decide +kernel
theorem dX1_sample_11 : decode cX1_sample 11 = .ok (.aload_n 0, 1) := by decide +kernel
theorem dX1_sample_12 : decode cX1_sample 12 = .ok (.aload_n 0, 1) := by decide +kernel
theorem dX1_sample_13 : decode cX1_sample 13 = .ok (.getfield 29, 3) := by decide +kernel
theorem dX1_sample_16 : decode cX1_sample 16 = .ok (.i2l, 1) := by decide +kernel
theorem dX1_sample_17 : decode cX1_sample 17 = .ok (.ldc2_w 130, 3) := by decide +kernel
theorem dX1_sample_20 : decode cX1_sample 20 = .ok (.lmul, 1) := by decide +kernel
theorem dX1_sample_21 : decode cX1_sample 21 = .ok (.ldc2_w 132, 3) := by decide +kernel
theorem dX1_sample_24 : decode cX1_sample 24 = .ok (.ladd, 1) := by decide +kernel
theorem dX1_sample_25 : decode cX1_sample 25 = .ok (.ldc2_w 134, 3) := by decide +kernel
theorem dX1_sample_28 : decode cX1_sample 28 = .ok (.lrem, 1) := by decide +kernel
theorem dX1_sample_29 : decode cX1_sample 29 = .ok (.l2i, 1) := by decide +kernel
theorem dX1_sample_30 : decode cX1_sample 30 = .ok (.putfield 29, 3) := by decide +kernel
theorem dX1_sample_33 : decode cX1_sample 33 = .ok (.aload_n 0, 1) := by decide +kernel
theorem dX1_sample_34 : decode cX1_sample 34 = .ok (.aload_n 0, 1) := by decide +kernel
theorem dX1_sample_35 : decode cX1_sample 35 = .ok (.getfield 29, 3) := by decide +kernel
theorem dX1_sample_38 : decode cX1_sample 38 = .ok (.ldc 136, 2) := by decide +kernel
theorem dX1_sample_40 : decode cX1_sample 40 = .ok (.idiv, 1) := by decide +kernel
theorem dX1_sample_41 : decode cX1_sample 41 = .ok (.iload_n 1, 1) := by decide +kernel
theorem dX1_sample_42 : decode cX1_sample 42 = .ok (.irem, 1) := by decide +kernel
theorem dX1_sample_43 : decode cX1_sample 43 = .ok (.invokevirtual 137, 3) := by decide +kernel
theorem dX1_sample_46 : decode cX1_sample 46 = .ok (.ireturn, 1) := by decide +kernel
theorem dX1_seed_0 : decode cX1_seed 0 = .ok (.iload_n 1, 1) := by decide +kernel
theorem dX1_seed_1 : decode cX1_seed 1 = .ok (.iconst 0, 1) := by decide +kernel
theorem dX1_seed_2 : decode cX1_seed 2 = .ok (.ldc 140, 2) := by decide +kernel
theorem dX1_seed_4 : decode cX1_seed 4 = .ok (.invokestatic 52, 3) := by decide +kernel
theorem dX1_seed_7 : decode cX1_seed 7 = .ok (.aload_n 0, 1) := by decide +kernel
theorem dX1_seed_8 : decode cX1_seed 8 = .ok (.iload_n 1, 1) := by decide +kernel
theorem dX1_seed_9 : decode cX1_seed 9 = .ok (.putfield 29, 3) := by decide +kernel
theorem dX1_seed_12 : decode cX1_seed 12 = .ok (.return_, 1) := by decide +kernel
theorem dX1_told_0 : decode cX1_told 0 = .ok (.aload_n 0, 1) := by decide +kernel
theorem dX1_told_1 : decode cX1_told 1 = .ok (.iload_n 1, 1) := by decide +kernel
theorem dX1_told_2 : decode cX1_told 2 = .ok (.invokevirtual 65, 3) := by decide +kernel
theorem dX1_told_5 : decode cX1_told 5 = .ok (.astore_n 3, 1) := by decide +kernel
theorem dX1_told_6 : decode cX1_told 6 = .ok (.iload_n 2, 1) := by decide +kernel
theorem dX1_told_7 : decode cX1_told 7 = .ok (.tableswitch 71 0 5 #[37, 42, 47, 52, 57, 62], 37) := by decide +kernel
theorem dX1_told_44 : decode cX1_told 44 = .ok (.aload_n 3, 1) := by decide +kernel
theorem dX1_told_45 : decode cX1_told 45 = .ok (.getfield 69, 3) := by decide +kernel
theorem dX1_told_48 : decode cX1_told 48 = .ok (.ireturn, 1) := by decide +kernel
theorem dX1_told_49 : decode cX1_told 49 = .ok (.aload_n 3, 1) := by decide +kernel
theorem dX1_told_50 : decode cX1_told 50 = .ok (.getfield 90, 3) := by decide +kernel
theorem dX1_told_53 : decode cX1_told 53 = .ok (.ireturn, 1) := by decide +kernel
theorem dX1_told_54 : decode cX1_told 54 = .ok (.aload_n 3, 1) := by decide +kernel
theorem dX1_told_55 : decode cX1_told 55 = .ok (.invokevirtual 83, 3) := by decide +kernel
theorem dX1_told_58 : decode cX1_told 58 = .ok (.ireturn, 1) := by decide +kernel
theorem dX1_told_59 : decode cX1_told 59 = .ok (.aload_n 3, 1) := by decide +kernel
theorem dX1_told_60 : decode cX1_told 60 = .ok (.invokevirtual 141, 3) := by decide +kernel
theorem dX1_told_63 : decode cX1_told 63 = .ok (.ireturn, 1) := by decide +kernel
theorem dX1_told_64 : decode cX1_told 64 = .ok (.aload_n 3, 1) := by decide +kernel
theorem dX1_told_65 : decode cX1_told 65 = .ok (.invokevirtual 144, 3) := by decide +kernel
theorem dX1_told_68 : decode cX1_told 68 = .ok (.ireturn, 1) := by decide +kernel
theorem dX1_told_69 : decode cX1_told 69 = .ok (.aload_n 3, 1) := by decide +kernel
theorem dX1_told_70 : decode cX1_told 70 = .ok (.aload_n 0, 1) := by decide +kernel
theorem dX1_told_71 : decode cX1_told 71 = .ok (.getfield 26, 3) := by decide +kernel
theorem dX1_told_74 : decode cX1_told 74 = .ok (.invokevirtual 147, 3) := by decide +kernel
theorem dX1_told_77 : decode cX1_told 77 = .ok (.ireturn, 1) := by decide +kernel
theorem dX1_told_78 : decode cX1_told 78 = .ok (.new 150, 3) := by decide +kernel
theorem dX1_told_81 : decode cX1_told 81 = .ok (.dup, 1) := by decide +kernel
theorem dX1_told_82 : decode cX1_told 82 = .ok (.ldc 152, 2) := by decide +kernel
theorem dX1_told_84 : decode cX1_told 84 = .ok (.invokespecial 154, 3) := by decide +kernel
theorem dX1_told_87 : decode cX1_told 87 = .ok (.athrow, 1) := by decide +kernel
theorem dX1_piece_0 : decode cX1_piece 0 = .ok (.aload_n 0, 1) := by decide +kernel
theorem dX1_piece_1 : decode cX1_piece 1 = .ok (.iload_n 1, 1) := by decide +kernel
theorem dX1_piece_2 : decode cX1_piece 2 = .ok (.invokevirtual 65, 3) := by decide +kernel
theorem dX1_piece_5 : decode cX1_piece 5 = .ok (.astore 4, 2) := by decide +kernel
theorem dX1_piece_7 : decode cX1_piece 7 = .ok (.aload 4, 2) := by decide +kernel
theorem dX1_piece_9 : decode cX1_piece 9 = .ok (.iload_n 2, 1) := by decide +kernel
theorem dX1_piece_10 : decode cX1_piece 10 = .ok (.invokestatic 111, 3) := by decide +kernel
theorem dX1_piece_13 : decode cX1_piece 13 = .ok (.iload_n 3, 1) := by decide +kernel
theorem dX1_piece_14 : decode cX1_piece 14 = .ok (.tableswitch 50 0 2 #[26, 34, 42], 26) := by decide +kernel
theorem dX1_piece_40 : decode cX1_piece 40 = .ok (.aload 4, 2) := by decide +kernel
theorem dX1_piece_42 : decode cX1_piece 42 = .ok (.getfield 80, 3) := by decide +kernel
theorem dX1_piece_45 : decode cX1_piece 45 = .ok (.iload_n 2, 1) := by decide +kernel
theorem dX1_piece_46 : decode cX1_piece 46 = .ok (.iaload, 1) := by decide +kernel
theorem dX1_piece_47 : decode cX1_piece 47 = .ok (.ireturn, 1) := by decide +kernel
theorem dX1_piece_48 : decode cX1_piece 48 = .ok (.aload 4, 2) := by decide +kernel
theorem dX1_piece_50 : decode cX1_piece 50 = .ok (.getfield 103, 3) := by decide +kernel
theorem dX1_piece_53 : decode cX1_piece 53 = .ok (.iload_n 2, 1) := by decide +kernel
theorem dX1_piece_54 : decode cX1_piece 54 = .ok (.iaload, 1) := by decide +kernel
theorem dX1_piece_55 : decode cX1_piece 55 = .ok (.ireturn, 1) := by decide +kernel
theorem dX1_piece_56 : decode cX1_piece 56 = .ok (.aload 4, 2) := by decide +kernel
theorem dX1_piece_58 : decode cX1_piece 58 = .ok (.getfield 119, 3) := by decide +kernel
theorem dX1_piece_61 : decode cX1_piece 61 = .ok (.iload_n 2, 1) := by decide +kernel
theorem dX1_piece_62 : decode cX1_piece 62 = .ok (.iaload, 1) := by decide +kernel
theorem dX1_piece_63 : decode cX1_piece 63 = .ok (.ireturn, 1) := by decide +kernel
theorem dX1_piece_64 : decode cX1_piece 64 = .ok (.new 150, 3) := by decide +kernel
theorem dX1_piece_67 : decode cX1_piece 67 = .ok (.dup, 1) := by decide +kernel
theorem dX1_piece_68 : decode cX1_piece 68 = .ok (.ldc 155, 2) := by decide +kernel
theorem dX1_piece_70 : decode cX1_piece 70 = .ok (.invokespecial 154, 3) := by decide +kernel
theorem dX1_piece_73 : decode cX1_piece 73 = .ok (.athrow, 1) := by decide +kernel
theorem dX1_errors_0 : decode cX1_errors 0 = .ok (.iload_n 1, 1) := by decide +kernel
theorem dX1_errors_1 : decode cX1_errors 1 = .ok (.invokestatic 96, 3) := by decide +kernel
theorem dX1_errors_4 : decode cX1_errors 4 = .ok (.aload_n 0, 1) := by decide +kernel
theorem dX1_errors_5 : decode cX1_errors 5 = .ok (.getfield 23, 3) := by decide +kernel
theorem dX1_errors_8 : decode cX1_errors 8 = .ok (.iload_n 1, 1) := by decide +kernel
theorem dX1_errors_9 : decode cX1_errors 9 = .ok (.iaload, 1) := by decide +kernel
theorem dX1_errors_10 : decode cX1_errors 10 = .ok (.ireturn, 1) := by decide +kernel
theorem dX1_count_0 : decode cX1_count 0 = .ok (.iload_n 1, 1) := by decide +kernel
theorem dX1_count_1 : decode cX1_count 1 = .ok (.tableswitch 73 0 5 #[39, 45, 50, 55, 60, 68], 39) := by decide +kernel
theorem dX1_count_40 : decode cX1_count 40 = .ok (.aload_n 0, 1) := by decide +kernel
theorem dX1_count_41 : decode cX1_count 41 = .ok (.getfield 41, 3) := by decide +kernel
theorem dX1_count_44 : decode cX1_count 44 = .ok (.arraylength, 1) := by decide +kernel
theorem dX1_count_45 : decode cX1_count 45 = .ok (.ireturn, 1) := by decide +kernel
theorem dX1_count_46 : decode cX1_count 46 = .ok (.aload_n 0, 1) := by decide +kernel
theorem dX1_count_47 : decode cX1_count 47 = .ok (.getfield 15, 3) := by decide +kernel
theorem dX1_count_50 : decode cX1_count 50 = .ok (.ireturn, 1) := by decide +kernel
theorem dX1_count_51 : decode cX1_count 51 = .ok (.aload_n 0, 1) := by decide +kernel
theorem dX1_count_52 : decode cX1_count 52 = .ok (.invokevirtual 157, 3) := by decide +kernel
theorem dX1_count_55 : decode cX1_count 55 = .ok (.ireturn, 1) := by decide +kernel
theorem dX1_count_56 : decode cX1_count 56 = .ok (.aload_n 0, 1) := by decide +kernel
theorem dX1_count_57 : decode cX1_count 57 = .ok (.invokevirtual 160, 3) := by decide +kernel
theorem dX1_count_60 : decode cX1_count 60 = .ok (.ireturn, 1) := by decide +kernel
theorem dX1_count_61 : decode cX1_count 61 = .ok (.aload_n 0, 1) := by decide +kernel
theorem dX1_count_62 : decode cX1_count 62 = .ok (.getfield 19, 3) := by decide +kernel
theorem dX1_count_65 : decode cX1_count 65 = .ok (.invokestatic 163, 3) := by decide +kernel
theorem dX1_count_68 : decode cX1_count 68 = .ok (.ireturn, 1) := by decide +kernel
theorem dX1_count_69 : decode cX1_count 69 = .ok (.aload_n 0, 1) := by decide +kernel
theorem dX1_count_70 : decode cX1_count 70 = .ok (.getfield 26, 3) := by decide +kernel
theorem dX1_count_73 : decode cX1_count 73 = .ok (.ireturn, 1) := by decide +kernel
theorem dX1_count_74 : decode cX1_count 74 = .ok (.iconst (-1), 1) := by decide +kernel
theorem dX1_count_75 : decode cX1_count 75 = .ok (.ireturn, 1) := by decide +kernel
theorem dX1_existing_0 : decode cX1_existing 0 = .ok (.iload_n 1, 1) := by decide +kernel
theorem dX1_existing_1 : decode cX1_existing 1 = .ok (.ifCond .lt 20, 3) := by decide +kernel
theorem dX1_existing_4 : decode cX1_existing 4 = .ok (.iload_n 1, 1) := by decide +kernel
theorem dX1_existing_5 : decode cX1_existing 5 = .ok (.aload_n 0, 1) := by decide +kernel
theorem dX1_existing_6 : decode cX1_existing 6 = .ok (.getfield 15, 3) := by decide +kernel
theorem dX1_existing_9 : decode cX1_existing 9 = .ok (.if_icmp .ge 12, 3) := by decide +kernel
theorem dX1_existing_12 : decode cX1_existing 12 = .ok (.iload_n 1, 1) := by decide +kernel
theorem dX1_existing_13 : decode cX1_existing 13 = .ok (.aload_n 0, 1) := by decide +kernel
theorem dX1_existing_14 : decode cX1_existing 14 = .ok (.getfield 11, 3) := by decide +kernel
theorem dX1_existing_17 : decode cX1_existing 17 = .ok (.arraylength, 1) := by decide +kernel
theorem dX1_existing_18 : decode cX1_existing 18 = .ok (.if_icmp .lt 13, 3) := by decide +kernel
theorem dX1_existing_21 : decode cX1_existing 21 = .ok (.new 167, 3) := by decide +kernel
theorem dX1_existing_24 : decode cX1_existing 24 = .ok (.dup, 1) := by decide +kernel
theorem dX1_existing_25 : decode cX1_existing 25 = .ok (.ldc 169, 2) := by decide +kernel
theorem dX1_existing_27 : decode cX1_existing 27 = .ok (.invokespecial 171, 3) := by decide +kernel
theorem dX1_existing_30 : decode cX1_existing 30 = .ok (.athrow, 1) := by decide +kernel
theorem dX1_existing_31 : decode cX1_existing 31 = .ok (.aload_n 0, 1) := by decide +kernel
theorem dX1_existing_32 : decode cX1_existing 32 = .ok (.getfield 11, 3) := by decide +kernel
theorem dX1_existing_35 : decode cX1_existing 35 = .ok (.iload_n 1, 1) := by decide +kernel
theorem dX1_existing_36 : decode cX1_existing 36 = .ok (.aaload, 1) := by decide +kernel
theorem dX1_existing_37 : decode cX1_existing 37 = .ok (.astore_n 2, 1) := by decide +kernel
theorem dX1_existing_38 : decode cX1_existing 38 = .ok (.aload_n 2, 1) := by decide +kernel
theorem dX1_existing_39 : decode cX1_existing 39 = .ok (.ifnonnull 13, 3) := by decide +kernel
theorem dX1_existing_42 : decode cX1_existing 42 = .ok (.new 167, 3) := by decide +kernel
theorem dX1_existing_45 : decode cX1_existing 45 = .ok (.dup, 1) := by decide +kernel
theorem dX1_existing_46 : decode cX1_existing 46 = .ok (.ldc 169, 2) := by decide +kernel
theorem dX1_existing_48 : decode cX1_existing 48 = .ok (.invokespecial 171, 3) := by decide +kernel
theorem dX1_existing_51 : decode cX1_existing 51 = .ok (.athrow, 1) := by decide +kernel
theorem dX1_existing_52 : decode cX1_existing 52 = .ok (.aload_n 2, 1) := by decide +kernel
theorem dX1_existing_53 : decode cX1_existing 53 = .ok (.areturn, 1) := by decide +kernel
theorem dX1_requireCell_0 : decode cX1_requireCell 0 = .ok (.iload_n 1, 1) := by decide +kernel
theorem dX1_requireCell_1 : decode cX1_requireCell 1 = .ok (.ifCond .lt 12, 3) := by decide +kernel
theorem dX1_requireCell_4 : decode cX1_requireCell 4 = .ok (.iload_n 1, 1) := by decide +kernel
theorem dX1_requireCell_5 : decode cX1_requireCell 5 = .ok (.aload_n 0, 1) := by decide +kernel
theorem dX1_requireCell_6 : decode cX1_requireCell 6 = .ok (.getfield 41, 3) := by decide +kernel
theorem dX1_requireCell_9 : decode cX1_requireCell 9 = .ok (.arraylength, 1) := by decide +kernel
theorem dX1_requireCell_10 : decode cX1_requireCell 10 = .ok (.if_icmp .lt 13, 3) := by decide +kernel
theorem dX1_requireCell_13 : decode cX1_requireCell 13 = .ok (.new 172, 3) := by decide +kernel
theorem dX1_requireCell_16 : decode cX1_requireCell 16 = .ok (.dup, 1) := by decide +kernel
theorem dX1_requireCell_17 : decode cX1_requireCell 17 = .ok (.ldc 174, 2) := by decide +kernel
theorem dX1_requireCell_19 : decode cX1_requireCell 19 = .ok (.invokespecial 176, 3) := by decide +kernel
theorem dX1_requireCell_22 : decode cX1_requireCell 22 = .ok (.athrow, 1) := by decide +kernel
theorem dX1_requireCell_23 : decode cX1_requireCell 23 = .ok (.return_, 1) := by decide +kernel
theorem dX1_requireRange_0 : decode cX1_requireRange 0 = .ok (.iload_n 0, 1) := by decide +kernel
theorem dX1_requireRange_1 : decode cX1_requireRange 1 = .ok (.iload_n 1, 1) := by decide +kernel
theorem dX1_requireRange_2 : decode cX1_requireRange 2 = .ok (.if_icmp .lt 8, 3) := by decide +kernel
theorem dX1_requireRange_5 : decode cX1_requireRange 5 = .ok (.iload_n 0, 1) := by decide +kernel
theorem dX1_requireRange_6 : decode cX1_requireRange 6 = .ok (.iload_n 2, 1) := by decide +kernel
theorem dX1_requireRange_7 : decode cX1_requireRange 7 = .ok (.if_icmp .le 13, 3) := by decide +kernel
theorem dX1_requireRange_10 : decode cX1_requireRange 10 = .ok (.new 150, 3) := by decide +kernel
theorem dX1_requireRange_13 : decode cX1_requireRange 13 = .ok (.dup, 1) := by decide +kernel
theorem dX1_requireRange_14 : decode cX1_requireRange 14 = .ok (.ldc 177, 2) := by decide +kernel
theorem dX1_requireRange_16 : decode cX1_requireRange 16 = .ok (.invokespecial 154, 3) := by decide +kernel
theorem dX1_requireRange_19 : decode cX1_requireRange 19 = .ok (.athrow, 1) := by decide +kernel
theorem dX1_requireRange_20 : decode cX1_requireRange 20 = .ok (.return_, 1) := by decide +kernel
theorem dX1_requireGood_0 : decode cX1_requireGood 0 = .ok (.iload_n 0, 1) := by decide +kernel
theorem dX1_requireGood_1 : decode cX1_requireGood 1 = .ok (.iconst 0, 1) := by decide +kernel
theorem dX1_requireGood_2 : decode cX1_requireGood 2 = .ok (.bipush 9, 2) := by decide +kernel
theorem dX1_requireGood_4 : decode cX1_requireGood 4 = .ok (.invokestatic 52, 3) := by decide +kernel
theorem dX1_requireGood_7 : decode cX1_requireGood 7 = .ok (.return_, 1) := by decide +kernel
theorem dX1_requirePerson_0 : decode cX1_requirePerson 0 = .ok (.iload_n 0, 1) := by decide +kernel
theorem dX1_requirePerson_1 : decode cX1_requirePerson 1 = .ok (.iconst 0, 1) := by decide +kernel
theorem dX1_requirePerson_2 : decode cX1_requirePerson 2 = .ok (.bipush 7, 2) := by decide +kernel
theorem dX1_requirePerson_4 : decode cX1_requirePerson 4 = .ok (.invokestatic 52, 3) := by decide +kernel
theorem dX1_requirePerson_7 : decode cX1_requirePerson 7 = .ok (.return_, 1) := by decide +kernel
theorem dX1_requireLine_0 : decode cX1_requireLine 0 = .ok (.iload_n 1, 1) := by decide +kernel
theorem dX1_requireLine_1 : decode cX1_requireLine 1 = .ok (.invokestatic 48, 3) := by decide +kernel
theorem dX1_requireLine_4 : decode cX1_requireLine 4 = .ok (.aload_n 0, 1) := by decide +kernel
theorem dX1_requireLine_5 : decode cX1_requireLine 5 = .ok (.iload_n 1, 1) := by decide +kernel
theorem dX1_requireLine_6 : decode cX1_requireLine 6 = .ok (.invokevirtual 72, 3) := by decide +kernel
theorem dX1_requireLine_9 : decode cX1_requireLine 9 = .ok (.ifCond .ne 13, 3) := by decide +kernel
theorem dX1_requireLine_12 : decode cX1_requireLine 12 = .ok (.new 167, 3) := by decide +kernel
theorem dX1_requireLine_15 : decode cX1_requireLine 15 = .ok (.dup, 1) := by decide +kernel
theorem dX1_requireLine_16 : decode cX1_requireLine 16 = .ok (.ldc 179, 2) := by decide +kernel
theorem dX1_requireLine_18 : decode cX1_requireLine 18 = .ok (.invokespecial 171, 3) := by decide +kernel
theorem dX1_requireLine_21 : decode cX1_requireLine 21 = .ok (.athrow, 1) := by decide +kernel
theorem dX1_requireLine_22 : decode cX1_requireLine 22 = .ok (.return_, 1) := by decide +kernel
theorem dX1_requireState_0 : decode cX1_requireState 0 = .ok (.iload_n 0, 1) := by decide +kernel
theorem dX1_requireState_1 : decode cX1_requireState 1 = .ok (.ifCond .ne 13, 3) := by decide +kernel
theorem dX1_requireState_4 : decode cX1_requireState 4 = .ok (.new 106, 3) := by decide +kernel
theorem dX1_requireState_7 : decode cX1_requireState 7 = .ok (.dup, 1) := by decide +kernel
theorem dX1_requireState_8 : decode cX1_requireState 8 = .ok (.ldc 181, 2) := by decide +kernel
theorem dX1_requireState_10 : decode cX1_requireState 10 = .ok (.invokespecial 110, 3) := by decide +kernel
theorem dX1_requireState_13 : decode cX1_requireState 13 = .ok (.athrow, 1) := by decide +kernel
theorem dX1_requireState_14 : decode cX1_requireState 14 = .ok (.return_, 1) := by decide +kernel
theorem dX1_lowestUsableCell_0 : decode cX1_lowestUsableCell 0 = .ok (.iconst 0, 1) := by decide +kernel
theorem dX1_lowestUsableCell_1 : decode cX1_lowestUsableCell 1 = .ok (.istore_n 1, 1) := by decide +kernel
theorem dX1_lowestUsableCell_2 : decode cX1_lowestUsableCell 2 = .ok (.iload_n 1, 1) := by decide +kernel
theorem dX1_lowestUsableCell_3 : decode cX1_lowestUsableCell 3 = .ok (.aload_n 0, 1) := by decide +kernel
theorem dX1_lowestUsableCell_4 : decode cX1_lowestUsableCell 4 = .ok (.getfield 41, 3) := by decide +kernel
theorem dX1_lowestUsableCell_7 : decode cX1_lowestUsableCell 7 = .ok (.arraylength, 1) := by decide +kernel
theorem dX1_lowestUsableCell_8 : decode cX1_lowestUsableCell 8 = .ok (.if_icmp .ge 29, 3) := by decide +kernel
theorem dX1_lowestUsableCell_11 : decode cX1_lowestUsableCell 11 = .ok (.aload_n 0, 1) := by decide +kernel
theorem dX1_lowestUsableCell_12 : decode cX1_lowestUsableCell 12 = .ok (.getfield 41, 3) := by decide +kernel
theorem dX1_lowestUsableCell_15 : decode cX1_lowestUsableCell 15 = .ok (.iload_n 1, 1) := by decide +kernel
theorem dX1_lowestUsableCell_16 : decode cX1_lowestUsableCell 16 = .ok (.aaload, 1) := by decide +kernel
theorem dX1_lowestUsableCell_17 : decode cX1_lowestUsableCell 17 = .ok (.ifnonnull 14, 3) := by decide +kernel
theorem dX1_lowestUsableCell_20 : decode cX1_lowestUsableCell 20 = .ok (.aload_n 0, 1) := by decide +kernel
theorem dX1_lowestUsableCell_21 : decode cX1_lowestUsableCell 21 = .ok (.getfield 44, 3) := by decide +kernel
theorem dX1_lowestUsableCell_24 : decode cX1_lowestUsableCell 24 = .ok (.iload_n 1, 1) := by decide +kernel
theorem dX1_lowestUsableCell_25 : decode cX1_lowestUsableCell 25 = .ok (.baload, 1) := by decide +kernel
theorem dX1_lowestUsableCell_26 : decode cX1_lowestUsableCell 26 = .ok (.ifCond .ne 5, 3) := by decide +kernel
theorem dX1_lowestUsableCell_29 : decode cX1_lowestUsableCell 29 = .ok (.iload_n 1, 1) := by decide +kernel
theorem dX1_lowestUsableCell_30 : decode cX1_lowestUsableCell 30 = .ok (.ireturn, 1) := by decide +kernel
theorem dX1_lowestUsableCell_31 : decode cX1_lowestUsableCell 31 = .ok (.iinc 1 1, 3) := by decide +kernel
theorem dX1_lowestUsableCell_34 : decode cX1_lowestUsableCell 34 = .ok (.goto (-32), 3) := by decide +kernel
theorem dX1_lowestUsableCell_37 : decode cX1_lowestUsableCell 37 = .ok (.iconst (-1), 1) := by decide +kernel
theorem dX1_lowestUsableCell_38 : decode cX1_lowestUsableCell 38 = .ok (.ireturn, 1) := by decide +kernel
theorem dX1_put_0 : decode cX1_put 0 = .ok (.aload_n 1, 1) := by decide +kernel
theorem dX1_put_1 : decode cX1_put 1 = .ok (.ifnonnull 5, 3) := by decide +kernel
theorem dX1_put_4 : decode cX1_put 4 = .ok (.iconst (-1), 1) := by decide +kernel
theorem dX1_put_5 : decode cX1_put 5 = .ok (.ireturn, 1) := by decide +kernel
theorem dX1_put_6 : decode cX1_put 6 = .ok (.iload_n 2, 1) := by decide +kernel
theorem dX1_put_7 : decode cX1_put 7 = .ok (.ifCond .eq 6, 3) := by decide +kernel
theorem dX1_put_10 : decode cX1_put 10 = .ok (.bipush (-2), 2) := by decide +kernel
theorem dX1_put_12 : decode cX1_put 12 = .ok (.ireturn, 1) := by decide +kernel
theorem dX1_put_13 : decode cX1_put 13 = .ok (.aload_n 1, 1) := by decide +kernel
theorem dX1_put_14 : decode cX1_put 14 = .ok (.iload_n 3, 1) := by decide +kernel
theorem dX1_put_15 : decode cX1_put 15 = .ok (.invokevirtual 72, 3) := by decide +kernel
theorem dX1_put_18 : decode cX1_put 18 = .ok (.ifCond .ne 6, 3) := by decide +kernel
theorem dX1_put_21 : decode cX1_put 21 = .ok (.bipush (-3), 2) := by decide +kernel
theorem dX1_put_23 : decode cX1_put 23 = .ok (.ireturn, 1) := by decide +kernel
theorem dX1_put_24 : decode cX1_put 24 = .ok (.aload_n 1, 1) := by decide +kernel
theorem dX1_put_25 : decode cX1_put 25 = .ok (.iload_n 3, 1) := by decide +kernel
theorem dX1_put_26 : decode cX1_put 26 = .ok (.invokevirtual 115, 3) := by decide +kernel
theorem dX1_put_29 : decode cX1_put 29 = .ok (.ifCond .eq 11, 3) := by decide +kernel
theorem dX1_put_32 : decode cX1_put 32 = .ok (.aload_n 1, 1) := by decide +kernel
theorem dX1_put_33 : decode cX1_put 33 = .ok (.getfield 69, 3) := by decide +kernel
theorem dX1_put_36 : decode cX1_put 36 = .ok (.iconst 2, 1) := by decide +kernel
theorem dX1_put_37 : decode cX1_put 37 = .ok (.if_icmp .ne 6, 3) := by decide +kernel
theorem dX1_put_40 : decode cX1_put 40 = .ok (.bipush (-4), 2) := by decide +kernel
theorem dX1_put_42 : decode cX1_put 42 = .ok (.ireturn, 1) := by decide +kernel
theorem dX1_put_43 : decode cX1_put 43 = .ok (.aload_n 0, 1) := by decide +kernel
theorem dX1_put_44 : decode cX1_put 44 = .ok (.getfield 19, 3) := by decide +kernel
theorem dX1_put_47 : decode cX1_put 47 = .ok (.iload_n 3, 1) := by decide +kernel
theorem dX1_put_48 : decode cX1_put 48 = .ok (.iaload, 1) := by decide +kernel
theorem dX1_put_49 : decode cX1_put 49 = .ok (.ifCond .ne 6, 3) := by decide +kernel
theorem dX1_put_52 : decode cX1_put 52 = .ok (.bipush (-5), 2) := by decide +kernel
theorem dX1_put_54 : decode cX1_put 54 = .ok (.ireturn, 1) := by decide +kernel
theorem dX1_put_55 : decode cX1_put 55 = .ok (.aload_n 0, 1) := by decide +kernel
theorem dX1_put_56 : decode cX1_put 56 = .ok (.getfield 19, 3) := by decide +kernel
theorem dX1_put_59 : decode cX1_put 59 = .ok (.iload_n 3, 1) := by decide +kernel
theorem dX1_put_60 : decode cX1_put 60 = .ok (.dup2, 1) := by decide +kernel
theorem dX1_put_61 : decode cX1_put 61 = .ok (.iaload, 1) := by decide +kernel
theorem dX1_put_62 : decode cX1_put 62 = .ok (.iconst 1, 1) := by decide +kernel
theorem dX1_put_63 : decode cX1_put 63 = .ok (.isub, 1) := by decide +kernel
theorem dX1_put_64 : decode cX1_put 64 = .ok (.iastore, 1) := by decide +kernel
theorem dX1_put_65 : decode cX1_put 65 = .ok (.aload_n 1, 1) := by decide +kernel
theorem dX1_put_66 : decode cX1_put 66 = .ok (.getfield 103, 3) := by decide +kernel
theorem dX1_put_69 : decode cX1_put 69 = .ok (.iload_n 3, 1) := by decide +kernel
theorem dX1_put_70 : decode cX1_put 70 = .ok (.dup2, 1) := by decide +kernel
theorem dX1_put_71 : decode cX1_put 71 = .ok (.iaload, 1) := by decide +kernel
theorem dX1_put_72 : decode cX1_put 72 = .ok (.iconst 1, 1) := by decide +kernel
theorem dX1_put_73 : decode cX1_put 73 = .ok (.iadd, 1) := by decide +kernel
theorem dX1_put_74 : decode cX1_put 74 = .ok (.iastore, 1) := by decide +kernel
theorem dX1_put_75 : decode cX1_put 75 = .ok (.iconst 1, 1) := by decide +kernel
theorem dX1_put_76 : decode cX1_put 76 = .ok (.ireturn, 1) := by decide +kernel
theorem dX1_completeCount_0 : decode cX1_completeCount 0 = .ok (.iconst 0, 1) := by decide +kernel
theorem dX1_completeCount_1 : decode cX1_completeCount 1 = .ok (.istore_n 1, 1) := by decide +kernel
theorem dX1_completeCount_2 : decode cX1_completeCount 2 = .ok (.iconst 0, 1) := by decide +kernel
theorem dX1_completeCount_3 : decode cX1_completeCount 3 = .ok (.istore_n 2, 1) := by decide +kernel
theorem dX1_completeCount_4 : decode cX1_completeCount 4 = .ok (.iload_n 2, 1) := by decide +kernel
theorem dX1_completeCount_5 : decode cX1_completeCount 5 = .ok (.aload_n 0, 1) := by decide +kernel
theorem dX1_completeCount_6 : decode cX1_completeCount 6 = .ok (.getfield 41, 3) := by decide +kernel
theorem dX1_completeCount_9 : decode cX1_completeCount 9 = .ok (.arraylength, 1) := by decide +kernel
theorem dX1_completeCount_10 : decode cX1_completeCount 10 = .ok (.if_icmp .ge 31, 3) := by decide +kernel
theorem dX1_completeCount_13 : decode cX1_completeCount 13 = .ok (.aload_n 0, 1) := by decide +kernel
theorem dX1_completeCount_14 : decode cX1_completeCount 14 = .ok (.getfield 41, 3) := by decide +kernel
theorem dX1_completeCount_17 : decode cX1_completeCount 17 = .ok (.iload_n 2, 1) := by decide +kernel
theorem dX1_completeCount_18 : decode cX1_completeCount 18 = .ok (.aaload, 1) := by decide +kernel
theorem dX1_completeCount_19 : decode cX1_completeCount 19 = .ok (.astore_n 3, 1) := by decide +kernel
theorem dX1_completeCount_20 : decode cX1_completeCount 20 = .ok (.aload_n 3, 1) := by decide +kernel
theorem dX1_completeCount_21 : decode cX1_completeCount 21 = .ok (.ifnull 14, 3) := by decide +kernel
theorem dX1_completeCount_24 : decode cX1_completeCount 24 = .ok (.aload_n 3, 1) := by decide +kernel
theorem dX1_completeCount_25 : decode cX1_completeCount 25 = .ok (.getfield 69, 3) := by decide +kernel
theorem dX1_completeCount_28 : decode cX1_completeCount 28 = .ok (.iconst 2, 1) := by decide +kernel
theorem dX1_completeCount_29 : decode cX1_completeCount 29 = .ok (.if_icmp .ne 6, 3) := by decide +kernel
theorem dX1_completeCount_32 : decode cX1_completeCount 32 = .ok (.iinc 1 1, 3) := by decide +kernel
theorem dX1_completeCount_35 : decode cX1_completeCount 35 = .ok (.iinc 2 1, 3) := by decide +kernel
theorem dX1_completeCount_38 : decode cX1_completeCount 38 = .ok (.goto (-34), 3) := by decide +kernel
theorem dX1_completeCount_41 : decode cX1_completeCount 41 = .ok (.iload_n 1, 1) := by decide +kernel
theorem dX1_completeCount_42 : decode cX1_completeCount 42 = .ok (.ireturn, 1) := by decide +kernel
theorem dX1_completeByCell_0 : decode cX1_completeByCell 0 = .ok (.iconst 0, 1) := by decide +kernel
theorem dX1_completeByCell_1 : decode cX1_completeByCell 1 = .ok (.istore_n 2, 1) := by decide +kernel
theorem dX1_completeByCell_2 : decode cX1_completeByCell 2 = .ok (.iconst 0, 1) := by decide +kernel
theorem dX1_completeByCell_3 : decode cX1_completeByCell 3 = .ok (.istore_n 3, 1) := by decide +kernel
theorem dX1_completeByCell_4 : decode cX1_completeByCell 4 = .ok (.iload_n 3, 1) := by decide +kernel
theorem dX1_completeByCell_5 : decode cX1_completeByCell 5 = .ok (.aload_n 0, 1) := by decide +kernel
theorem dX1_completeByCell_6 : decode cX1_completeByCell 6 = .ok (.getfield 41, 3) := by decide +kernel
theorem dX1_completeByCell_9 : decode cX1_completeByCell 9 = .ok (.arraylength, 1) := by decide +kernel
theorem dX1_completeByCell_10 : decode cX1_completeByCell 10 = .ok (.if_icmp .ge 45, 3) := by decide +kernel
theorem dX1_completeByCell_13 : decode cX1_completeByCell 13 = .ok (.aload_n 0, 1) := by decide +kernel
theorem dX1_completeByCell_14 : decode cX1_completeByCell 14 = .ok (.getfield 41, 3) := by decide +kernel
theorem dX1_completeByCell_17 : decode cX1_completeByCell 17 = .ok (.iload_n 3, 1) := by decide +kernel
theorem dX1_completeByCell_18 : decode cX1_completeByCell 18 = .ok (.aaload, 1) := by decide +kernel
theorem dX1_completeByCell_19 : decode cX1_completeByCell 19 = .ok (.astore 4, 2) := by decide +kernel
theorem dX1_completeByCell_21 : decode cX1_completeByCell 21 = .ok (.aload 4, 2) := by decide +kernel
theorem dX1_completeByCell_23 : decode cX1_completeByCell 23 = .ok (.ifnull 26, 3) := by decide +kernel
theorem dX1_completeByCell_26 : decode cX1_completeByCell 26 = .ok (.aload 4, 2) := by decide +kernel
theorem dX1_completeByCell_28 : decode cX1_completeByCell 28 = .ok (.getfield 69, 3) := by decide +kernel
theorem dX1_completeByCell_31 : decode cX1_completeByCell 31 = .ok (.iconst 2, 1) := by decide +kernel
theorem dX1_completeByCell_32 : decode cX1_completeByCell 32 = .ok (.if_icmp .ne 17, 3) := by decide +kernel
theorem dX1_completeByCell_35 : decode cX1_completeByCell 35 = .ok (.iload_n 2, 1) := by decide +kernel
theorem dX1_completeByCell_36 : decode cX1_completeByCell 36 = .ok (.iload_n 1, 1) := by decide +kernel
theorem dX1_completeByCell_37 : decode cX1_completeByCell 37 = .ok (.if_icmp .ne 9, 3) := by decide +kernel
theorem dX1_completeByCell_40 : decode cX1_completeByCell 40 = .ok (.aload 4, 2) := by decide +kernel
theorem dX1_completeByCell_42 : decode cX1_completeByCell 42 = .ok (.getfield 183, 3) := by decide +kernel
theorem dX1_completeByCell_45 : decode cX1_completeByCell 45 = .ok (.ireturn, 1) := by decide +kernel
theorem dX1_completeByCell_46 : decode cX1_completeByCell 46 = .ok (.iinc 2 1, 3) := by decide +kernel
theorem dX1_completeByCell_49 : decode cX1_completeByCell 49 = .ok (.iinc 3 1, 3) := by decide +kernel
theorem dX1_completeByCell_52 : decode cX1_completeByCell 52 = .ok (.goto (-48), 3) := by decide +kernel
theorem dX1_completeByCell_55 : decode cX1_completeByCell 55 = .ok (.iconst (-1), 1) := by decide +kernel
theorem dX1_completeByCell_56 : decode cX1_completeByCell 56 = .ok (.ireturn, 1) := by decide +kernel
theorem dX1_freeCells_0 : decode cX1_freeCells 0 = .ok (.iconst 0, 1) := by decide +kernel
theorem dX1_freeCells_1 : decode cX1_freeCells 1 = .ok (.istore_n 1, 1) := by decide +kernel
theorem dX1_freeCells_2 : decode cX1_freeCells 2 = .ok (.iconst 0, 1) := by decide +kernel
theorem dX1_freeCells_3 : decode cX1_freeCells 3 = .ok (.istore_n 2, 1) := by decide +kernel
theorem dX1_freeCells_4 : decode cX1_freeCells 4 = .ok (.iload_n 2, 1) := by decide +kernel
theorem dX1_freeCells_5 : decode cX1_freeCells 5 = .ok (.aload_n 0, 1) := by decide +kernel
theorem dX1_freeCells_6 : decode cX1_freeCells 6 = .ok (.getfield 41, 3) := by decide +kernel
theorem dX1_freeCells_9 : decode cX1_freeCells 9 = .ok (.arraylength, 1) := by decide +kernel
theorem dX1_freeCells_10 : decode cX1_freeCells 10 = .ok (.if_icmp .ge 21, 3) := by decide +kernel
theorem dX1_freeCells_13 : decode cX1_freeCells 13 = .ok (.aload_n 0, 1) := by decide +kernel
theorem dX1_freeCells_14 : decode cX1_freeCells 14 = .ok (.getfield 41, 3) := by decide +kernel
theorem dX1_freeCells_17 : decode cX1_freeCells 17 = .ok (.iload_n 2, 1) := by decide +kernel
theorem dX1_freeCells_18 : decode cX1_freeCells 18 = .ok (.aaload, 1) := by decide +kernel
theorem dX1_freeCells_19 : decode cX1_freeCells 19 = .ok (.ifnonnull 6, 3) := by decide +kernel
theorem dX1_freeCells_22 : decode cX1_freeCells 22 = .ok (.iinc 1 1, 3) := by decide +kernel
theorem dX1_freeCells_25 : decode cX1_freeCells 25 = .ok (.iinc 2 1, 3) := by decide +kernel
theorem dX1_freeCells_28 : decode cX1_freeCells 28 = .ok (.goto (-24), 3) := by decide +kernel
theorem dX1_freeCells_31 : decode cX1_freeCells 31 = .ok (.iload_n 1, 1) := by decide +kernel
theorem dX1_freeCells_32 : decode cX1_freeCells 32 = .ok (.ireturn, 1) := by decide +kernel
theorem dX1_piecesInCells_0 : decode cX1_piecesInCells 0 = .ok (.iconst 0, 1) := by decide +kernel
theorem dX1_piecesInCells_1 : decode cX1_piecesInCells 1 = .ok (.istore_n 1, 1) := by decide +kernel
theorem dX1_piecesInCells_2 : decode cX1_piecesInCells 2 = .ok (.iconst 0, 1) := by decide +kernel
theorem dX1_piecesInCells_3 : decode cX1_piecesInCells 3 = .ok (.istore_n 2, 1) := by decide +kernel
theorem dX1_piecesInCells_4 : decode cX1_piecesInCells 4 = .ok (.iload_n 2, 1) := by decide +kernel
theorem dX1_piecesInCells_5 : decode cX1_piecesInCells 5 = .ok (.aload_n 0, 1) := by decide +kernel
theorem dX1_piecesInCells_6 : decode cX1_piecesInCells 6 = .ok (.getfield 41, 3) := by decide +kernel
theorem dX1_piecesInCells_9 : decode cX1_piecesInCells 9 = .ok (.arraylength, 1) := by decide +kernel
theorem dX1_piecesInCells_10 : decode cX1_piecesInCells 10 = .ok (.if_icmp .ge 27, 3) := by decide +kernel
theorem dX1_piecesInCells_13 : decode cX1_piecesInCells 13 = .ok (.aload_n 0, 1) := by decide +kernel
theorem dX1_piecesInCells_14 : decode cX1_piecesInCells 14 = .ok (.getfield 41, 3) := by decide +kernel
theorem dX1_piecesInCells_17 : decode cX1_piecesInCells 17 = .ok (.iload_n 2, 1) := by decide +kernel
theorem dX1_piecesInCells_18 : decode cX1_piecesInCells 18 = .ok (.aaload, 1) := by decide +kernel
theorem dX1_piecesInCells_19 : decode cX1_piecesInCells 19 = .ok (.astore_n 3, 1) := by decide +kernel
theorem dX1_piecesInCells_20 : decode cX1_piecesInCells 20 = .ok (.aload_n 3, 1) := by decide +kernel
theorem dX1_piecesInCells_21 : decode cX1_piecesInCells 21 = .ok (.ifnull 10, 3) := by decide +kernel
theorem dX1_piecesInCells_24 : decode cX1_piecesInCells 24 = .ok (.iload_n 1, 1) := by decide +kernel
theorem dX1_piecesInCells_25 : decode cX1_piecesInCells 25 = .ok (.aload_n 3, 1) := by decide +kernel
theorem dX1_piecesInCells_26 : decode cX1_piecesInCells 26 = .ok (.invokevirtual 141, 3) := by decide +kernel
theorem dX1_piecesInCells_29 : decode cX1_piecesInCells 29 = .ok (.iadd, 1) := by decide +kernel
theorem dX1_piecesInCells_30 : decode cX1_piecesInCells 30 = .ok (.istore_n 1, 1) := by decide +kernel
theorem dX1_piecesInCells_31 : decode cX1_piecesInCells 31 = .ok (.iinc 2 1, 3) := by decide +kernel
theorem dX1_piecesInCells_34 : decode cX1_piecesInCells 34 = .ok (.goto (-30), 3) := by decide +kernel
theorem dX1_piecesInCells_37 : decode cX1_piecesInCells 37 = .ok (.iload_n 1, 1) := by decide +kernel
theorem dX1_piecesInCells_38 : decode cX1_piecesInCells 38 = .ok (.ireturn, 1) := by decide +kernel
theorem dX1_sum_0 : decode cX1_sum 0 = .ok (.iconst 0, 1) := by decide +kernel
theorem dX1_sum_1 : decode cX1_sum 1 = .ok (.istore_n 1, 1) := by decide +kernel
theorem dX1_sum_2 : decode cX1_sum 2 = .ok (.iconst 0, 1) := by decide +kernel
theorem dX1_sum_3 : decode cX1_sum 3 = .ok (.istore_n 2, 1) := by decide +kernel
theorem dX1_sum_4 : decode cX1_sum 4 = .ok (.iload_n 2, 1) := by decide +kernel
theorem dX1_sum_5 : decode cX1_sum 5 = .ok (.aload_n 0, 1) := by decide +kernel
theorem dX1_sum_6 : decode cX1_sum 6 = .ok (.arraylength, 1) := by decide +kernel
theorem dX1_sum_7 : decode cX1_sum 7 = .ok (.if_icmp .ge 15, 3) := by decide +kernel
theorem dX1_sum_10 : decode cX1_sum 10 = .ok (.iload_n 1, 1) := by decide +kernel
theorem dX1_sum_11 : decode cX1_sum 11 = .ok (.aload_n 0, 1) := by decide +kernel
theorem dX1_sum_12 : decode cX1_sum 12 = .ok (.iload_n 2, 1) := by decide +kernel
theorem dX1_sum_13 : decode cX1_sum 13 = .ok (.iaload, 1) := by decide +kernel
theorem dX1_sum_14 : decode cX1_sum 14 = .ok (.iadd, 1) := by decide +kernel
theorem dX1_sum_15 : decode cX1_sum 15 = .ok (.istore_n 1, 1) := by decide +kernel
theorem dX1_sum_16 : decode cX1_sum 16 = .ok (.iinc 2 1, 3) := by decide +kernel
theorem dX1_sum_19 : decode cX1_sum 19 = .ok (.goto (-15), 3) := by decide +kernel
theorem dX1_sum_22 : decode cX1_sum 22 = .ok (.iload_n 1, 1) := by decide +kernel
theorem dX1_sum_23 : decode cX1_sum 23 = .ok (.ireturn, 1) := by decide +kernel
theorem dJx00060_init_a7421_0 : decode cJx00060_init_a7421 0 = .ok (.aload_n 0, 1) := by decide +kernel
theorem dJx00060_init_a7421_1 : decode cJx00060_init_a7421 1 = .ok (.aload_n 1, 1) := by decide +kernel
theorem dJx00060_init_a7421_2 : decode cJx00060_init_a7421 2 = .ok (.invokespecial 7, 3) := by decide +kernel
theorem dJx00060_init_a7421_5 : decode cJx00060_init_a7421 5 = .ok (.return_, 1) := by decide +kernel
theorem dJ9_max_7cf53_0 : decode cJ9_max_7cf53 0 = .ok (.iload_n 0, 1) := by decide +kernel
theorem dJ9_max_7cf53_1 : decode cJ9_max_7cf53 1 = .ok (.iload_n 1, 1) := by decide +kernel
theorem dJ9_max_7cf53_2 : decode cJ9_max_7cf53 2 = .ok (.if_icmp .lt 7, 3) := by decide +kernel
theorem dJ9_max_7cf53_5 : decode cJ9_max_7cf53 5 = .ok (.iload_n 0, 1) := by decide +kernel
theorem dJ9_max_7cf53_6 : decode cJ9_max_7cf53 6 = .ok (.goto 4, 3) := by decide +kernel
theorem dJ9_max_7cf53_9 : decode cJ9_max_7cf53 9 = .ok (.iload_n 1, 1) := by decide +kernel
theorem dJ9_max_7cf53_10 : decode cJ9_max_7cf53 10 = .ok (.ireturn, 1) := by decide +kernel
theorem dJ9_min_7cf53_0 : decode cJ9_min_7cf53 0 = .ok (.iload_n 0, 1) := by decide +kernel
theorem dJ9_min_7cf53_1 : decode cJ9_min_7cf53 1 = .ok (.iload_n 1, 1) := by decide +kernel
theorem dJ9_min_7cf53_2 : decode cJ9_min_7cf53 2 = .ok (.if_icmp .gt 7, 3) := by decide +kernel
theorem dJ9_min_7cf53_5 : decode cJ9_min_7cf53 5 = .ok (.iload_n 0, 1) := by decide +kernel
theorem dJ9_min_7cf53_6 : decode cJ9_min_7cf53 6 = .ok (.goto 4, 3) := by decide +kernel
theorem dJ9_min_7cf53_9 : decode cJ9_min_7cf53 9 = .ok (.iload_n 1, 1) := by decide +kernel
theorem dJ9_min_7cf53_10 : decode cJ9_min_7cf53 10 = .ok (.ireturn, 1) := by decide +kernel
theorem dJ7_fill_53178_0 : decode cJ7_fill_53178 0 = .ok (.iconst 0, 1) := by decide +kernel
theorem dJ7_fill_53178_1 : decode cJ7_fill_53178 1 = .ok (.istore_n 2, 1) := by decide +kernel
theorem dJ7_fill_53178_2 : decode cJ7_fill_53178 2 = .ok (.aload_n 0, 1) := by decide +kernel
theorem dJ7_fill_53178_3 : decode cJ7_fill_53178 3 = .ok (.arraylength, 1) := by decide +kernel
theorem dJ7_fill_53178_4 : decode cJ7_fill_53178 4 = .ok (.istore_n 3, 1) := by decide +kernel
theorem dJ7_fill_53178_5 : decode cJ7_fill_53178 5 = .ok (.iload_n 2, 1) := by decide +kernel
theorem dJ7_fill_53178_6 : decode cJ7_fill_53178 6 = .ok (.iload_n 3, 1) := by decide +kernel
theorem dJ7_fill_53178_7 : decode cJ7_fill_53178 7 = .ok (.if_icmp .ge 13, 3) := by decide +kernel
theorem dJ7_fill_53178_10 : decode cJ7_fill_53178 10 = .ok (.aload_n 0, 1) := by decide +kernel
theorem dJ7_fill_53178_11 : decode cJ7_fill_53178 11 = .ok (.iload_n 2, 1) := by decide +kernel
theorem dJ7_fill_53178_12 : decode cJ7_fill_53178 12 = .ok (.iload_n 1, 1) := by decide +kernel
theorem dJ7_fill_53178_13 : decode cJ7_fill_53178 13 = .ok (.iastore, 1) := by decide +kernel
theorem dJ7_fill_53178_14 : decode cJ7_fill_53178 14 = .ok (.iinc 2 1, 3) := by decide +kernel
theorem dJ7_fill_53178_17 : decode cJ7_fill_53178 17 = .ok (.goto (-12), 3) := by decide +kernel
theorem dJ7_fill_53178_20 : decode cJ7_fill_53178 20 = .ok (.return_, 1) := by decide +kernel
