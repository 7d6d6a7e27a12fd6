theorem dX0_init_0 : decode cX0_init 0 = .ok (.aload_n 0, 1) := by decide +kernel
theorem dX0_init_1 : decode cX0_init 1 = .ok (.invokespecial 3, 3) := by decide +kernel
theorem dX0_init_4 : decode cX0_init 4 = .ok (.aload_n 0, 1) := by decide +kernel
theorem dX0_init_5 : decode cX0_init 5 = .ok (.bipush 52, 2) := by decide +kernel
theorem dX0_init_7 : decode cX0_init 7 = .ok (.newarray .int, 2) := by decide +kernel
theorem dX0_init_9 : decode cX0_init 9 = .ok (.putfield 9, 3) := by decide +kernel
theorem dX0_init_12 : decode cX0_init 12 = .ok (.return_, 1) := by decide +kernel
theorem dX0_copyFrom_0 : decode cX0_copyFrom 0 = .ok (.aload_n 1, 1) := by decide +kernel
theorem dX0_copyFrom_1 : decode cX0_copyFrom 1 = .ok (.getfield 9, 3) := by decide +kernel
theorem dX0_copyFrom_4 : decode cX0_copyFrom 4 = .ok (.iconst 0, 1) := by decide +kernel
theorem dX0_copyFrom_5 : decode cX0_copyFrom 5 = .ok (.aload_n 0, 1) := by decide +kernel
theorem dX0_copyFrom_6 : decode cX0_copyFrom 6 = .ok (.getfield 9, 3) := by decide +kernel
theorem dX0_copyFrom_9 : decode cX0_copyFrom 9 = .ok (.iconst 0, 1) := by decide +kernel
theorem dX0_copyFrom_10 : decode cX0_copyFrom 10 = .ok (.bipush 52, 2) := by decide +kernel
theorem dX0_copyFrom_12 : decode cX0_copyFrom 12 = .ok (.invokestatic 15, 3) := by decide +kernel
theorem dX0_copyFrom_15 : decode cX0_copyFrom 15 = .ok (.aload_n 0, 1) := by decide +kernel
theorem dX0_copyFrom_16 : decode cX0_copyFrom 16 = .ok (.aload_n 1, 1) := by decide +kernel
theorem dX0_copyFrom_17 : decode cX0_copyFrom 17 = .ok (.getfield 21, 3) := by decide +kernel
theorem dX0_copyFrom_20 : decode cX0_copyFrom 20 = .ok (.putfield 21, 3) := by decide +kernel
theorem dX0_copyFrom_23 : decode cX0_copyFrom 23 = .ok (.aload_n 0, 1) := by decide +kernel
theorem dX0_copyFrom_24 : decode cX0_copyFrom 24 = .ok (.aload_n 1, 1) := by decide +kernel
theorem dX0_copyFrom_25 : decode cX0_copyFrom 25 = .ok (.getfield 25, 3) := by decide +kernel
theorem dX0_copyFrom_28 : decode cX0_copyFrom 28 = .ok (.putfield 25, 3) := by decide +kernel
theorem dX0_copyFrom_31 : decode cX0_copyFrom 31 = .ok (.aload_n 0, 1) := by decide +kernel
theorem dX0_copyFrom_32 : decode cX0_copyFrom 32 = .ok (.aload_n 1, 1) := by decide +kernel
theorem dX0_copyFrom_33 : decode cX0_copyFrom 33 = .ok (.getfield 28, 3) := by decide +kernel
theorem dX0_copyFrom_36 : decode cX0_copyFrom 36 = .ok (.putfield 28, 3) := by decide +kernel
theorem dX0_copyFrom_39 : decode cX0_copyFrom 39 = .ok (.return_, 1) := by decide +kernel
theorem dX0_giveOut_0 : decode cX0_giveOut 0 = .ok (.iconst 0, 1) := by decide +kernel
theorem dX0_giveOut_1 : decode cX0_giveOut 1 = .ok (.istore_n 2, 1) := by decide +kernel
theorem dX0_giveOut_2 : decode cX0_giveOut 2 = .ok (.iload_n 2, 1) := by decide +kernel
theorem dX0_giveOut_3 : decode cX0_giveOut 3 = .ok (.bipush 52, 2) := by decide +kernel
theorem dX0_giveOut_5 : decode cX0_giveOut 5 = .ok (.if_icmp .ge 32, 3) := by decide +kernel
theorem dX0_giveOut_8 : decode cX0_giveOut 8 = .ok (.aload_n 1, 1) := by decide +kernel
theorem dX0_giveOut_9 : decode cX0_giveOut 9 = .ok (.iload_n 2, 1) := by decide +kernel
theorem dX0_giveOut_10 : decode cX0_giveOut 10 = .ok (.iaload, 1) := by decide +kernel
theorem dX0_giveOut_11 : decode cX0_giveOut 11 = .ok (.istore_n 3, 1) := by decide +kernel
theorem dX0_giveOut_12 : decode cX0_giveOut 12 = .ok (.iload_n 3, 1) := by decide +kernel
theorem dX0_giveOut_13 : decode cX0_giveOut 13 = .ok (.ifCond .lt 18, 3) := by decide +kernel
theorem dX0_giveOut_16 : decode cX0_giveOut 16 = .ok (.iload_n 3, 1) := by decide +kernel
theorem dX0_giveOut_17 : decode cX0_giveOut 17 = .ok (.bipush 52, 2) := by decide +kernel
theorem dX0_giveOut_19 : decode cX0_giveOut 19 = .ok (.if_icmp .ge 12, 3) := by decide +kernel
theorem dX0_giveOut_22 : decode cX0_giveOut 22 = .ok (.aload_n 0, 1) := by decide +kernel
theorem dX0_giveOut_23 : decode cX0_giveOut 23 = .ok (.getfield 9, 3) := by decide +kernel
theorem dX0_giveOut_26 : decode cX0_giveOut 26 = .ok (.iload_n 3, 1) := by decide +kernel
theorem dX0_giveOut_27 : decode cX0_giveOut 27 = .ok (.iload_n 2, 1) := by decide +kernel
theorem dX0_giveOut_28 : decode cX0_giveOut 28 = .ok (.iconst 4, 1) := by decide +kernel
theorem dX0_giveOut_29 : decode cX0_giveOut 29 = .ok (.irem, 1) := by decide +kernel
theorem dX0_giveOut_30 : decode cX0_giveOut 30 = .ok (.iastore, 1) := by decide +kernel
theorem dX0_giveOut_31 : decode cX0_giveOut 31 = .ok (.iinc 2 1, 3) := by decide +kernel
theorem dX0_giveOut_34 : decode cX0_giveOut 34 = .ok (.goto (-32), 3) := by decide +kernel
theorem dX0_giveOut_37 : decode cX0_giveOut 37 = .ok (.aload_n 0, 1) := by decide +kernel
theorem dX0_giveOut_38 : decode cX0_giveOut 38 = .ok (.iconst 1, 1) := by decide +kernel
theorem dX0_giveOut_39 : decode cX0_giveOut 39 = .ok (.putfield 21, 3) := by decide +kernel
theorem dX0_giveOut_42 : decode cX0_giveOut 42 = .ok (.aload_n 0, 1) := by decide +kernel
theorem dX0_giveOut_43 : decode cX0_giveOut 43 = .ok (.iconst 0, 1) := by decide +kernel
theorem dX0_giveOut_44 : decode cX0_giveOut 44 = .ok (.putfield 28, 3) := by decide +kernel
theorem dX0_giveOut_47 : decode cX0_giveOut 47 = .ok (.return_, 1) := by decide +kernel
theorem dX0_hasHandsOf_0 : decode cX0_hasHandsOf 0 = .ok (.iconst 0, 1) := by decide +kernel
theorem dX0_hasHandsOf_1 : decode cX0_hasHandsOf 1 = .ok (.istore_n 2, 1) := by decide +kernel
theorem dX0_hasHandsOf_2 : decode cX0_hasHandsOf 2 = .ok (.iload_n 2, 1) := by decide +kernel
theorem dX0_hasHandsOf_3 : decode cX0_hasHandsOf 3 = .ok (.bipush 52, 2) := by decide +kernel
theorem dX0_hasHandsOf_5 : decode cX0_hasHandsOf 5 = .ok (.if_icmp .ge 26, 3) := by decide +kernel
theorem dX0_hasHandsOf_8 : decode cX0_hasHandsOf 8 = .ok (.aload_n 0, 1) := by decide +kernel
theorem dX0_hasHandsOf_9 : decode cX0_hasHandsOf 9 = .ok (.getfield 9, 3) := by decide +kernel
theorem dX0_hasHandsOf_12 : decode cX0_hasHandsOf 12 = .ok (.iload_n 2, 1) := by decide +kernel
theorem dX0_hasHandsOf_13 : decode cX0_hasHandsOf 13 = .ok (.iaload, 1) := by decide +kernel
theorem dX0_hasHandsOf_14 : decode cX0_hasHandsOf 14 = .ok (.aload_n 1, 1) := by decide +kernel
theorem dX0_hasHandsOf_15 : decode cX0_hasHandsOf 15 = .ok (.getfield 9, 3) := by decide +kernel
theorem dX0_hasHandsOf_18 : decode cX0_hasHandsOf 18 = .ok (.iload_n 2, 1) := by decide +kernel
theorem dX0_hasHandsOf_19 : decode cX0_hasHandsOf 19 = .ok (.iaload, 1) := by decide +kernel
theorem dX0_hasHandsOf_20 : decode cX0_hasHandsOf 20 = .ok (.if_icmp .eq 5, 3) := by decide +kernel
theorem dX0_hasHandsOf_23 : decode cX0_hasHandsOf 23 = .ok (.iconst 0, 1) := by decide +kernel
theorem dX0_hasHandsOf_24 : decode cX0_hasHandsOf 24 = .ok (.ireturn, 1) := by decide +kernel
theorem dX0_hasHandsOf_25 : decode cX0_hasHandsOf 25 = .ok (.iinc 2 1, 3) := by decide +kernel
theorem dX0_hasHandsOf_28 : decode cX0_hasHandsOf 28 = .ok (.goto (-26), 3) := by decide +kernel
theorem dX0_hasHandsOf_31 : decode cX0_hasHandsOf 31 = .ok (.iconst 1, 1) := by decide +kernel
theorem dX0_hasHandsOf_32 : decode cX0_hasHandsOf 32 = .ok (.ireturn, 1) := by decide +kernel
theorem dX0_suitLength_0 : decode cX0_suitLength 0 = .ok (.iconst 0, 1) := by decide +kernel
theorem dX0_suitLength_1 : decode cX0_suitLength 1 = .ok (.istore_n 3, 1) := by decide +kernel
theorem dX0_suitLength_2 : decode cX0_suitLength 2 = .ok (.iconst 0, 1) := by decide +kernel
theorem dX0_suitLength_3 : decode cX0_suitLength 3 = .ok (.istore 4, 2) := by decide +kernel
theorem dX0_suitLength_5 : decode cX0_suitLength 5 = .ok (.iload 4, 2) := by decide +kernel
theorem dX0_suitLength_7 : decode cX0_suitLength 7 = .ok (.bipush 52, 2) := by decide +kernel
theorem dX0_suitLength_9 : decode cX0_suitLength 9 = .ok (.if_icmp .ge 32, 3) := by decide +kernel
theorem dX0_suitLength_12 : decode cX0_suitLength 12 = .ok (.aload_n 0, 1) := by decide +kernel
theorem dX0_suitLength_13 : decode cX0_suitLength 13 = .ok (.getfield 9, 3) := by decide +kernel
theorem dX0_suitLength_16 : decode cX0_suitLength 16 = .ok (.iload 4, 2) := by decide +kernel
theorem dX0_suitLength_18 : decode cX0_suitLength 18 = .ok (.iaload, 1) := by decide +kernel
theorem dX0_suitLength_19 : decode cX0_suitLength 19 = .ok (.iload_n 1, 1) := by decide +kernel
theorem dX0_suitLength_20 : decode cX0_suitLength 20 = .ok (.if_icmp .ne 15, 3) := by decide +kernel
theorem dX0_suitLength_23 : decode cX0_suitLength 23 = .ok (.iload 4, 2) := by decide +kernel
theorem dX0_suitLength_25 : decode cX0_suitLength 25 = .ok (.bipush 13, 2) := by decide +kernel
theorem dX0_suitLength_27 : decode cX0_suitLength 27 = .ok (.idiv, 1) := by decide +kernel
theorem dX0_suitLength_28 : decode cX0_suitLength 28 = .ok (.iload_n 2, 1) := by decide +kernel
theorem dX0_suitLength_29 : decode cX0_suitLength 29 = .ok (.if_icmp .ne 6, 3) := by decide +kernel
theorem dX0_suitLength_32 : decode cX0_suitLength 32 = .ok (.iinc 3 1, 3) := by decide +kernel
theorem dX0_suitLength_35 : decode cX0_suitLength 35 = .ok (.iinc 4 1, 3) := by decide +kernel
theorem dX0_suitLength_38 : decode cX0_suitLength 38 = .ok (.goto (-33), 3) := by decide +kernel
theorem dX0_suitLength_41 : decode cX0_suitLength 41 = .ok (.iload_n 3, 1) := by decide +kernel
theorem dX0_suitLength_42 : decode cX0_suitLength 42 = .ok (.ireturn, 1) := by decide +kernel
theorem dX0_pointsOf_0 : decode cX0_pointsOf 0 = .ok (.iconst 0, 1) := by decide +kernel
theorem dX0_pointsOf_1 : decode cX0_pointsOf 1 = .ok (.istore_n 2, 1) := by decide +kernel
theorem dX0_pointsOf_2 : decode cX0_pointsOf 2 = .ok (.iconst 0, 1) := by decide +kernel
theorem dX0_pointsOf_3 : decode cX0_pointsOf 3 = .ok (.istore_n 3, 1) := by decide +kernel
theorem dX0_pointsOf_4 : decode cX0_pointsOf 4 = .ok (.iload_n 3, 1) := by decide +kernel
theorem dX0_pointsOf_5 : decode cX0_pointsOf 5 = .ok (.bipush 52, 2) := by decide +kernel
theorem dX0_pointsOf_7 : decode cX0_pointsOf 7 = .ok (.if_icmp .ge 29, 3) := by decide +kernel
theorem dX0_pointsOf_10 : decode cX0_pointsOf 10 = .ok (.aload_n 0, 1) := by decide +kernel
theorem dX0_pointsOf_11 : decode cX0_pointsOf 11 = .ok (.getfield 9, 3) := by decide +kernel
theorem dX0_pointsOf_14 : decode cX0_pointsOf 14 = .ok (.iload_n 3, 1) := by decide +kernel
theorem dX0_pointsOf_15 : decode cX0_pointsOf 15 = .ok (.iaload, 1) := by decide +kernel
theorem dX0_pointsOf_16 : decode cX0_pointsOf 16 = .ok (.iload_n 1, 1) := by decide +kernel
theorem dX0_pointsOf_17 : decode cX0_pointsOf 17 = .ok (.if_icmp .ne 13, 3) := by decide +kernel
theorem dX0_pointsOf_20 : decode cX0_pointsOf 20 = .ok (.iload_n 2, 1) := by decide +kernel
theorem dX0_pointsOf_21 : decode cX0_pointsOf 21 = .ok (.iload_n 3, 1) := by decide +kernel
theorem dX0_pointsOf_22 : decode cX0_pointsOf 22 = .ok (.bipush 13, 2) := by decide +kernel
theorem dX0_pointsOf_24 : decode cX0_pointsOf 24 = .ok (.irem, 1) := by decide +kernel
theorem dX0_pointsOf_25 : decode cX0_pointsOf 25 = .ok (.invokestatic 32, 3) := by decide +kernel
theorem dX0_pointsOf_28 : decode cX0_pointsOf 28 = .ok (.iadd, 1) := by decide +kernel
theorem dX0_pointsOf_29 : decode cX0_pointsOf 29 = .ok (.istore_n 2, 1) := by decide +kernel
theorem dX0_pointsOf_30 : decode cX0_pointsOf 30 = .ok (.iinc 3 1, 3) := by decide +kernel
theorem dX0_pointsOf_33 : decode cX0_pointsOf 33 = .ok (.goto (-29), 3) := by decide +kernel
theorem dX0_pointsOf_36 : decode cX0_pointsOf 36 = .ok (.iload_n 2, 1) := by decide +kernel
theorem dX0_pointsOf_37 : decode cX0_pointsOf 37 = .ok (.ireturn, 1) := by decide +kernel
theorem dX0_pointsOfRank_0 : decode cX0_pointsOfRank 0 = .ok (.iconst 0, 1) := by decide +kernel
theorem dX0_pointsOfRank_1 : decode cX0_pointsOfRank 1 = .ok (.iload_n 0, 1) := by decide +kernel
theorem dX0_pointsOfRank_2 : decode cX0_pointsOfRank 2 = .ok (.bipush 8, 2) := by decide +kernel
theorem dX0_pointsOfRank_4 : decode cX0_pointsOfRank 4 = .ok (.isub, 1) := by decide +kernel
theorem dX0_pointsOfRank_5 : decode cX0_pointsOfRank 5 = .ok (.invokestatic 36, 3) := by decide +kernel
theorem dX0_pointsOfRank_8 : decode cX0_pointsOfRank 8 = .ok (.ireturn, 1) := by decide +kernel
theorem dX0_isBalanced_0 : decode cX0_isBalanced 0 = .ok (.iconst 0, 1) := by decide +kernel
theorem dX0_isBalanced_1 : decode cX0_isBalanced 1 = .ok (.istore_n 2, 1) := by decide +kernel
theorem dX0_isBalanced_2 : decode cX0_isBalanced 2 = .ok (.iconst 0, 1) := by decide +kernel
theorem dX0_isBalanced_3 : decode cX0_isBalanced 3 = .ok (.istore_n 3, 1) := by decide +kernel
theorem dX0_isBalanced_4 : decode cX0_isBalanced 4 = .ok (.iload_n 3, 1) := by decide +kernel
theorem dX0_isBalanced_5 : decode cX0_isBalanced 5 = .ok (.iconst 4, 1) := by decide +kernel
theorem dX0_isBalanced_6 : decode cX0_isBalanced 6 = .ok (.if_icmp .ge 34, 3) := by decide +kernel
theorem dX0_isBalanced_9 : decode cX0_isBalanced 9 = .ok (.aload_n 0, 1) := by decide +kernel
theorem dX0_isBalanced_10 : decode cX0_isBalanced 10 = .ok (.iload_n 1, 1) := by decide +kernel
theorem dX0_isBalanced_11 : decode cX0_isBalanced 11 = .ok (.iload_n 3, 1) := by decide +kernel
theorem dX0_isBalanced_12 : decode cX0_isBalanced 12 = .ok (.invokevirtual 42, 3) := by decide +kernel
theorem dX0_isBalanced_15 : decode cX0_isBalanced 15 = .ok (.istore 4, 2) := by decide +kernel
theorem dX0_isBalanced_17 : decode cX0_isBalanced 17 = .ok (.iload 4, 2) := by decide +kernel
theorem dX0_isBalanced_19 : decode cX0_isBalanced 19 = .ok (.iconst 2, 1) := by decide +kernel
theorem dX0_isBalanced_20 : decode cX0_isBalanced 20 = .ok (.if_icmp .ge 5, 3) := by decide +kernel
theorem dX0_isBalanced_23 : decode cX0_isBalanced 23 = .ok (.iconst 0, 1) := by decide +kernel
theorem dX0_isBalanced_24 : decode cX0_isBalanced 24 = .ok (.ireturn, 1) := by decide +kernel
theorem dX0_isBalanced_25 : decode cX0_isBalanced 25 = .ok (.iload 4, 2) := by decide +kernel
theorem dX0_isBalanced_27 : decode cX0_isBalanced 27 = .ok (.iconst 2, 1) := by decide +kernel
theorem dX0_isBalanced_28 : decode cX0_isBalanced 28 = .ok (.if_icmp .ne 6, 3) := by decide +kernel
theorem dX0_isBalanced_31 : decode cX0_isBalanced 31 = .ok (.iinc 2 1, 3) := by decide +kernel
theorem dX0_isBalanced_34 : decode cX0_isBalanced 34 = .ok (.iinc 3 1, 3) := by decide +kernel
theorem dX0_isBalanced_37 : decode cX0_isBalanced 37 = .ok (.goto (-33), 3) := by decide +kernel
theorem dX0_isBalanced_40 : decode cX0_isBalanced 40 = .ok (.iload_n 2, 1) := by decide +kernel
theorem dX0_isBalanced_41 : decode cX0_isBalanced 41 = .ok (.iconst 1, 1) := by decide +kernel
theorem dX0_isBalanced_42 : decode cX0_isBalanced 42 = .ok (.if_icmp .gt 7, 3) := by decide +kernel
theorem dX0_isBalanced_45 : decode cX0_isBalanced 45 = .ok (.iconst 1, 1) := by decide +kernel
theorem dX0_isBalanced_46 : decode cX0_isBalanced 46 = .ok (.goto 4, 3) := by decide +kernel
theorem dX0_isBalanced_49 : decode cX0_isBalanced 49 = .ok (.iconst 0, 1) := by decide +kernel
theorem dX0_isBalanced_50 : decode cX0_isBalanced 50 = .ok (.ireturn, 1) := by decide +kernel
theorem dX0_highestSpade_0 : decode cX0_highestSpade 0 = .ok (.bipush 12, 2) := by decide +kernel
theorem dX0_highestSpade_2 : decode cX0_highestSpade 2 = .ok (.istore_n 2, 1) := by decide +kernel
theorem dX0_highestSpade_3 : decode cX0_highestSpade 3 = .ok (.iload_n 2, 1) := by decide +kernel
theorem dX0_highestSpade_4 : decode cX0_highestSpade 4 = .ok (.ifCond .lt 24, 3) := by decide +kernel
theorem dX0_highestSpade_7 : decode cX0_highestSpade 7 = .ok (.aload_n 0, 1) := by decide +kernel
theorem dX0_highestSpade_8 : decode cX0_highestSpade 8 = .ok (.getfield 9, 3) := by decide +kernel
theorem dX0_highestSpade_11 : decode cX0_highestSpade 11 = .ok (.bipush 39, 2) := by decide +kernel
theorem dX0_highestSpade_13 : decode cX0_highestSpade 13 = .ok (.iload_n 2, 1) := by decide +kernel
theorem dX0_highestSpade_14 : decode cX0_highestSpade 14 = .ok (.iadd, 1) := by decide +kernel
theorem dX0_highestSpade_15 : decode cX0_highestSpade 15 = .ok (.iaload, 1) := by decide +kernel
theorem dX0_highestSpade_16 : decode cX0_highestSpade 16 = .ok (.iload_n 1, 1) := by decide +kernel
theorem dX0_highestSpade_17 : decode cX0_highestSpade 17 = .ok (.if_icmp .ne 5, 3) := by decide +kernel
theorem dX0_highestSpade_20 : decode cX0_highestSpade 20 = .ok (.iload_n 2, 1) := by decide +kernel
theorem dX0_highestSpade_21 : decode cX0_highestSpade 21 = .ok (.ireturn, 1) := by decide +kernel
theorem dX0_highestSpade_22 : decode cX0_highestSpade 22 = .ok (.iinc 2 (-1), 3) := by decide +kernel
theorem dX0_highestSpade_25 : decode cX0_highestSpade 25 = .ok (.goto (-22), 3) := by decide +kernel
theorem dX0_highestSpade_28 : decode cX0_highestSpade 28 = .ok (.bipush (-6), 2) := by decide +kernel
theorem dX0_highestSpade_30 : decode cX0_highestSpade 30 = .ok (.ireturn, 1) := by decide +kernel
theorem dX0_strongestHand_0 : decode cX0_strongestHand 0 = .ok (.iconst 0, 1) := by decide +kernel
theorem dX0_strongestHand_1 : decode cX0_strongestHand 1 = .ok (.istore_n 1, 1) := by decide +kernel
theorem dX0_strongestHand_2 : decode cX0_strongestHand 2 = .ok (.aload_n 0, 1) := by decide +kernel
theorem dX0_strongestHand_3 : decode cX0_strongestHand 3 = .ok (.iconst 0, 1) := by decide +kernel
theorem dX0_strongestHand_4 : decode cX0_strongestHand 4 = .ok (.invokevirtual 45, 3) := by decide +kernel
theorem dX0_strongestHand_7 : decode cX0_strongestHand 7 = .ok (.istore_n 2, 1) := by decide +kernel
theorem dX0_strongestHand_8 : decode cX0_strongestHand 8 = .ok (.iconst 1, 1) := by decide +kernel
theorem dX0_strongestHand_9 : decode cX0_strongestHand 9 = .ok (.istore_n 3, 1) := by decide +kernel
theorem dX0_strongestHand_10 : decode cX0_strongestHand 10 = .ok (.iload_n 3, 1) := by decide +kernel
theorem dX0_strongestHand_11 : decode cX0_strongestHand 11 = .ok (.iconst 4, 1) := by decide +kernel
theorem dX0_strongestHand_12 : decode cX0_strongestHand 12 = .ok (.if_icmp .ge 27, 3) := by decide +kernel
theorem dX0_strongestHand_15 : decode cX0_strongestHand 15 = .ok (.aload_n 0, 1) := by decide +kernel
theorem dX0_strongestHand_16 : decode cX0_strongestHand 16 = .ok (.iload_n 3, 1) := by decide +kernel
theorem dX0_strongestHand_17 : decode cX0_strongestHand 17 = .ok (.invokevirtual 45, 3) := by decide +kernel
theorem dX0_strongestHand_20 : decode cX0_strongestHand 20 = .ok (.istore 4, 2) := by decide +kernel
theorem dX0_strongestHand_22 : decode cX0_strongestHand 22 = .ok (.iload 4, 2) := by decide +kernel
theorem dX0_strongestHand_24 : decode cX0_strongestHand 24 = .ok (.iload_n 2, 1) := by decide +kernel
theorem dX0_strongestHand_25 : decode cX0_strongestHand 25 = .ok (.if_icmp .le 8, 3) := by decide +kernel
theorem dX0_strongestHand_28 : decode cX0_strongestHand 28 = .ok (.iload 4, 2) := by decide +kernel
theorem dX0_strongestHand_30 : decode cX0_strongestHand 30 = .ok (.istore_n 2, 1) := by decide +kernel
theorem dX0_strongestHand_31 : decode cX0_strongestHand 31 = .ok (.iload_n 3, 1) := by decide +kernel
theorem dX0_strongestHand_32 : decode cX0_strongestHand 32 = .ok (.istore_n 1, 1) := by decide +kernel
theorem dX0_strongestHand_33 : decode cX0_strongestHand 33 = .ok (.iinc 3 1, 3) := by decide +kernel
theorem dX0_strongestHand_36 : decode cX0_strongestHand 36 = .ok (.goto (-26), 3) := by decide +kernel
theorem dX0_strongestHand_39 : decode cX0_strongestHand 39 = .ok (.iload_n 1, 1) := by decide +kernel
theorem dX0_strongestHand_40 : decode cX0_strongestHand 40 = .ok (.ireturn, 1) := by decide +kernel
theorem dX0_balancedHands_0 : decode cX0_balancedHands 0 = .ok (.iconst 0, 1) := by decide +kernel
theorem dX0_balancedHands_1 : decode cX0_balancedHands 1 = .ok (.istore_n 1, 1) := by decide +kernel
theorem dX0_balancedHands_2 : decode cX0_balancedHands 2 = .ok (.iconst 0, 1) := by decide +kernel
theorem dX0_balancedHands_3 : decode cX0_balancedHands 3 = .ok (.istore_n 2, 1) := by decide +kernel
theorem dX0_balancedHands_4 : decode cX0_balancedHands 4 = .ok (.iload_n 2, 1) := by decide +kernel
theorem dX0_balancedHands_5 : decode cX0_balancedHands 5 = .ok (.iconst 4, 1) := by decide +kernel
theorem dX0_balancedHands_6 : decode cX0_balancedHands 6 = .ok (.if_icmp .ge 23, 3) := by decide +kernel
theorem dX0_balancedHands_9 : decode cX0_balancedHands 9 = .ok (.aload_n 0, 1) := by decide +kernel
theorem dX0_balancedHands_10 : decode cX0_balancedHands 10 = .ok (.iload_n 2, 1) := by decide +kernel
theorem dX0_balancedHands_11 : decode cX0_balancedHands 11 = .ok (.invokevirtual 48, 3) := by decide +kernel
theorem dX0_balancedHands_14 : decode cX0_balancedHands 14 = .ok (.ifCond .eq 9, 3) := by decide +kernel
theorem dX0_balancedHands_17 : decode cX0_balancedHands 17 = .ok (.iload_n 1, 1) := by decide +kernel
theorem dX0_balancedHands_18 : decode cX0_balancedHands 18 = .ok (.iconst 1, 1) := by decide +kernel
theorem dX0_balancedHands_19 : decode cX0_balancedHands 19 = .ok (.iload_n 2, 1) := by decide +kernel
theorem dX0_balancedHands_20 : decode cX0_balancedHands 20 = .ok (.ishl, 1) := by decide +kernel
theorem dX0_balancedHands_21 : decode cX0_balancedHands 21 = .ok (.ior, 1) := by decide +kernel
theorem dX0_balancedHands_22 : decode cX0_balancedHands 22 = .ok (.istore_n 1, 1) := by decide +kernel
theorem dX0_balancedHands_23 : decode cX0_balancedHands 23 = .ok (.iinc 2 1, 3) := by decide +kernel
theorem dX0_balancedHands_26 : decode cX0_balancedHands 26 = .ok (.goto (-22), 3) := by decide +kernel
theorem dX0_balancedHands_29 : decode cX0_balancedHands 29 = .ok (.iload_n 1, 1) := by decide +kernel
theorem dX0_balancedHands_30 : decode cX0_balancedHands 30 = .ok (.ireturn, 1) := by decide +kernel
theorem dX1_init_0 : decode cX1_init 0 = .ok (.aload_n 0, 1) := by decide +kernel
theorem dX1_init_1 : decode cX1_init 1 = .ok (.invokespecial 3, 3) := by decide +kernel
theorem dX1_init_4 : decode cX1_init 4 = .ok (.aload_n 0, 1) := by decide +kernel
theorem dX1_init_5 : decode cX1_init 5 = .ok (.bipush 60, 2) := by decide +kernel
theorem dX1_init_7 : decode cX1_init 7 = .ok (.newarray .char, 2) := by decide +kernel
theorem dX1_init_9 : decode cX1_init 9 = .ok (.putfield 9, 3) := by decide +kernel
theorem dX1_init_12 : decode cX1_init 12 = .ok (.return_, 1) := by decide +kernel
theorem dX2_init_0 : decode cX2_init 0 = .ok (.aload_n 0, 1) := by decide +kernel
theorem dX2_init_1 : decode cX2_init 1 = .ok (.invokespecial 3, 3) := by decide +kernel
theorem dX2_init_4 : decode cX2_init 4 = .ok (.aload_n 0, 1) := by decide +kernel
theorem dX2_init_5 : decode cX2_init 5 = .ok (.iconst 2, 1) := by decide +kernel
theorem dX2_init_6 : decode cX2_init 6 = .ok (.newarray .int, 2) := by decide +kernel
theorem dX2_init_8 : decode cX2_init 8 = .ok (.putfield 9, 3) := by decide +kernel
theorem dX2_init_11 : decode cX2_init 11 = .ok (.iconst 0, 1) := by decide +kernel
theorem dX2_init_12 : decode cX2_init 12 = .ok (.istore_n 1, 1) := by decide +kernel
theorem dX2_init_13 : decode cX2_init 13 = .ok (.iload_n 1, 1) := by decide +kernel
theorem dX2_init_14 : decode cX2_init 14 = .ok (.iconst 2, 1) := by decide +kernel
theorem dX2_init_15 : decode cX2_init 15 = .ok (.if_icmp .ge 20, 3) := by decide +kernel
theorem dX2_init_18 : decode cX2_init 18 = .ok (.aload_n 0, 1) := by decide +kernel
theorem dX2_init_19 : decode cX2_init 19 = .ok (.getfield 9, 3) := by decide +kernel
theorem dX2_init_22 : decode cX2_init 22 = .ok (.iload_n 1, 1) := by decide +kernel
theorem dX2_init_23 : decode cX2_init 23 = .ok (.getstatic 15, 3) := by decide +kernel
theorem dX2_init_26 : decode cX2_init 26 = .ok (.iload_n 1, 1) := by decide +kernel
theorem dX2_init_27 : decode cX2_init 27 = .ok (.iaload, 1) := by decide +kernel
theorem dX2_init_28 : decode cX2_init 28 = .ok (.iastore, 1) := by decide +kernel
theorem dX2_init_29 : decode cX2_init 29 = .ok (.iinc 1 1, 3) := by decide +kernel
theorem dX2_init_32 : decode cX2_init 32 = .ok (.goto (-19), 3) := by decide +kernel
theorem dX2_init_35 : decode cX2_init 35 = .ok (.aload_n 0, 1) := by decide +kernel
theorem dX2_init_36 : decode cX2_init 36 = .ok (.bipush 52, 2) := by decide +kernel
theorem dX2_init_38 : decode cX2_init 38 = .ok (.newarray .int, 2) := by decide +kernel
theorem dX2_init_40 : decode cX2_init 40 = .ok (.putfield 18, 3) := by decide +kernel
theorem dX2_init_43 : decode cX2_init 43 = .ok (.iconst 0, 1) := by decide +kernel
theorem dX2_init_44 : decode cX2_init 44 = .ok (.istore_n 1, 1) := by decide +kernel
theorem dX2_init_45 : decode cX2_init 45 = .ok (.iload_n 1, 1) := by decide +kernel
theorem dX2_init_46 : decode cX2_init 46 = .ok (.bipush 52, 2) := by decide +kernel
theorem dX2_init_48 : decode cX2_init 48 = .ok (.if_icmp .ge 16, 3) := by decide +kernel
theorem dX2_init_51 : decode cX2_init 51 = .ok (.aload_n 0, 1) := by decide +kernel
theorem dX2_init_52 : decode cX2_init 52 = .ok (.getfield 18, 3) := by decide +kernel
theorem dX2_init_55 : decode cX2_init 55 = .ok (.iload_n 1, 1) := by decide +kernel
theorem dX2_init_56 : decode cX2_init 56 = .ok (.iload_n 1, 1) := by decide +kernel
theorem dX2_init_57 : decode cX2_init 57 = .ok (.iastore, 1) := by decide +kernel
theorem dX2_init_58 : decode cX2_init 58 = .ok (.iinc 1 1, 3) := by decide +kernel
theorem dX2_init_61 : decode cX2_init 61 = .ok (.goto (-16), 3) := by decide +kernel
theorem dX2_init_64 : decode cX2_init 64 = .ok (.aload_n 0, 1) := by decide +kernel
theorem dX2_init_65 : decode cX2_init 65 = .ok (.bipush 52, 2) := by decide +kernel
theorem dX2_init_67 : decode cX2_init 67 = .ok (.newarray .boolean, 2) := by decide +kernel
theorem dX2_init_69 : decode cX2_init 69 = .ok (.putfield 21, 3) := by decide +kernel
theorem dX2_init_72 : decode cX2_init 72 = .ok (.aload_n 0, 1) := by decide +kernel
theorem dX2_init_73 : decode cX2_init 73 = .ok (.iconst 4, 1) := by decide +kernel
theorem dX2_init_74 : decode cX2_init 74 = .ok (.anewarray 25, 3) := by decide +kernel
theorem dX2_init_77 : decode cX2_init 77 = .ok (.putfield 27, 3) := by decide +kernel
theorem dX2_init_80 : decode cX2_init 80 = .ok (.iconst 0, 1) := by decide +kernel
theorem dX2_init_81 : decode cX2_init 81 = .ok (.istore_n 1, 1) := by decide +kernel
theorem dX2_init_82 : decode cX2_init 82 = .ok (.iload_n 1, 1) := by decide +kernel
theorem dX2_init_83 : decode cX2_init 83 = .ok (.iconst 4, 1) := by decide +kernel
theorem dX2_init_84 : decode cX2_init 84 = .ok (.if_icmp .ge 22, 3) := by decide +kernel
theorem dX2_init_87 : decode cX2_init 87 = .ok (.aload_n 0, 1) := by decide +kernel
theorem dX2_init_88 : decode cX2_init 88 = .ok (.getfield 27, 3) := by decide +kernel
theorem dX2_init_91 : decode cX2_init 91 = .ok (.iload_n 1, 1) := by decide +kernel
theorem dX2_init_92 : decode cX2_init 92 = .ok (.new 25, 3) := by decide +kernel
theorem dX2_init_95 : decode cX2_init 95 = .ok (.dup, 1) := by decide +kernel
theorem dX2_init_96 : decode cX2_init 96 = .ok (.invokespecial 31, 3) := by decide +kernel
theorem dX2_init_99 : decode cX2_init 99 = .ok (.aastore, 1) := by decide +kernel
theorem dX2_init_100 : decode cX2_init 100 = .ok (.iinc 1 1, 3) := by decide +kernel
theorem dX2_init_103 : decode cX2_init 103 = .ok (.goto (-21), 3) := by decide +kernel
theorem dX2_init_106 : decode cX2_init 106 = .ok (.aload_n 0, 1) := by decide +kernel
theorem dX2_init_107 : decode cX2_init 107 = .ok (.iconst 1, 1) := by decide +kernel
theorem dX2_init_108 : decode cX2_init 108 = .ok (.putfield 32, 3) := by decide +kernel
theorem dX2_init_111 : decode cX2_init 111 = .ok (.aload_n 0, 1) := by decide +kernel
theorem dX2_init_112 : decode cX2_init 112 = .ok (.bipush (-6), 2) := by decide +kernel
theorem dX2_init_114 : decode cX2_init 114 = .ok (.putfield 36, 3) := by decide +kernel
theorem dX2_init_117 : decode cX2_init 117 = .ok (.return_, 1) := by decide +kernel
theorem dX2_copyFrom_0 : decode cX2_copyFrom 0 = .ok (.aload_n 1, 1) := by decide +kernel
theorem dX2_copyFrom_1 : decode cX2_copyFrom 1 = .ok (.getfield 9, 3) := by decide +kernel
theorem dX2_copyFrom_4 : decode cX2_copyFrom 4 = .ok (.iconst 0, 1) := by decide +kernel
theorem dX2_copyFrom_5 : decode cX2_copyFrom 5 = .ok (.aload_n 0, 1) := by decide +kernel
theorem dX2_copyFrom_6 : decode cX2_copyFrom 6 = .ok (.getfield 9, 3) := by decide +kernel
theorem dX2_copyFrom_9 : decode cX2_copyFrom 9 = .ok (.iconst 0, 1) := by decide +kernel
theorem dX2_copyFrom_10 : decode cX2_copyFrom 10 = .ok (.iconst 2, 1) := by decide +kernel
theorem dX2_copyFrom_11 : decode cX2_copyFrom 11 = .ok (.invokestatic 39, 3) := by decide +kernel
theorem dX2_copyFrom_14 : decode cX2_copyFrom 14 = .ok (.aload_n 1, 1) := by decide +kernel
theorem dX2_copyFrom_15 : decode cX2_copyFrom 15 = .ok (.getfield 18, 3) := by decide +kernel
theorem dX2_copyFrom_18 : decode cX2_copyFrom 18 = .ok (.iconst 0, 1) := by decide +kernel
theorem dX2_copyFrom_19 : decode cX2_copyFrom 19 = .ok (.aload_n 0, 1) := by decide +kernel
theorem dX2_copyFrom_20 : decode cX2_copyFrom 20 = .ok (.getfield 18, 3) := by decide +kernel
theorem dX2_copyFrom_23 : decode cX2_copyFrom 23 = .ok (.iconst 0, 1) := by decide +kernel
theorem dX2_copyFrom_24 : decode cX2_copyFrom 24 = .ok (.bipush 52, 2) := by decide +kernel
theorem dX2_copyFrom_26 : decode cX2_copyFrom 26 = .ok (.invokestatic 39, 3) := by decide +kernel
theorem dX2_copyFrom_29 : decode cX2_copyFrom 29 = .ok (.aload_n 1, 1) := by decide +kernel
theorem dX2_copyFrom_30 : decode cX2_copyFrom 30 = .ok (.getfield 21, 3) := by decide +kernel
theorem dX2_copyFrom_33 : decode cX2_copyFrom 33 = .ok (.iconst 0, 1) := by decide +kernel
theorem dX2_copyFrom_34 : decode cX2_copyFrom 34 = .ok (.aload_n 0, 1) := by decide +kernel
theorem dX2_copyFrom_35 : decode cX2_copyFrom 35 = .ok (.getfield 21, 3) := by decide +kernel
theorem dX2_copyFrom_38 : decode cX2_copyFrom 38 = .ok (.iconst 0, 1) := by decide +kernel
theorem dX2_copyFrom_39 : decode cX2_copyFrom 39 = .ok (.bipush 52, 2) := by decide +kernel
theorem dX2_copyFrom_41 : decode cX2_copyFrom 41 = .ok (.invokestatic 39, 3) := by decide +kernel
theorem dX2_copyFrom_44 : decode cX2_copyFrom 44 = .ok (.iconst 0, 1) := by decide +kernel
theorem dX2_copyFrom_45 : decode cX2_copyFrom 45 = .ok (.istore_n 2, 1) := by decide +kernel
theorem dX2_copyFrom_46 : decode cX2_copyFrom 46 = .ok (.iload_n 2, 1) := by decide +kernel
theorem dX2_copyFrom_47 : decode cX2_copyFrom 47 = .ok (.iconst 4, 1) := by decide +kernel
theorem dX2_copyFrom_48 : decode cX2_copyFrom 48 = .ok (.if_icmp .ge 24, 3) := by decide +kernel
theorem dX2_copyFrom_51 : decode cX2_copyFrom 51 = .ok (.aload_n 0, 1) := by decide +kernel
theorem dX2_copyFrom_52 : decode cX2_copyFrom 52 = .ok (.getfield 27, 3) := by decide +kernel
theorem dX2_copyFrom_55 : decode cX2_copyFrom 55 = .ok (.iload_n 2, 1) := by decide +kernel
theorem dX2_copyFrom_56 : decode cX2_copyFrom 56 = .ok (.aaload, 1) := by decide +kernel
theorem dX2_copyFrom_57 : decode cX2_copyFrom 57 = .ok (.aload_n 1, 1) := by decide +kernel
theorem dX2_copyFrom_58 : decode cX2_copyFrom 58 = .ok (.getfield 27, 3) := by decide +kernel
theorem dX2_copyFrom_61 : decode cX2_copyFrom 61 = .ok (.iload_n 2, 1) := by decide +kernel
theorem dX2_copyFrom_62 : decode cX2_copyFrom 62 = .ok (.aaload, 1) := by decide +kernel
theorem dX2_copyFrom_63 : decode cX2_copyFrom 63 = .ok (.invokevirtual 45, 3) := by decide +kernel
theorem dX2_copyFrom_66 : decode cX2_copyFrom 66 = .ok (.iinc 2 1, 3) := by decide +kernel
theorem dX2_copyFrom_69 : decode cX2_copyFrom 69 = .ok (.goto (-23), 3) := by decide +kernel
theorem dX2_copyFrom_72 : decode cX2_copyFrom 72 = .ok (.aload_n 0, 1) := by decide +kernel
theorem dX2_copyFrom_73 : decode cX2_copyFrom 73 = .ok (.aload_n 1, 1) := by decide +kernel
theorem dX2_copyFrom_74 : decode cX2_copyFrom 74 = .ok (.getfield 32, 3) := by decide +kernel
theorem dX2_copyFrom_77 : decode cX2_copyFrom 77 = .ok (.putfield 32, 3) := by decide +kernel
theorem dX2_copyFrom_80 : decode cX2_copyFrom 80 = .ok (.aload_n 0, 1) := by decide +kernel
theorem dX2_copyFrom_81 : decode cX2_copyFrom 81 = .ok (.aload_n 1, 1) := by decide +kernel
theorem dX2_copyFrom_82 : decode cX2_copyFrom 82 = .ok (.getfield 49, 3) := by decide +kernel
theorem dX2_copyFrom_85 : decode cX2_copyFrom 85 = .ok (.putfield 49, 3) := by decide +kernel
theorem dX2_copyFrom_88 : decode cX2_copyFrom 88 = .ok (.aload_n 0, 1) := by decide +kernel
theorem dX2_copyFrom_89 : decode cX2_copyFrom 89 = .ok (.aload_n 1, 1) := by decide +kernel
theorem dX2_copyFrom_90 : decode cX2_copyFrom 90 = .ok (.getfield 36, 3) := by decide +kernel
theorem dX2_copyFrom_93 : decode cX2_copyFrom 93 = .ok (.putfield 36, 3) := by decide +kernel
theorem dX2_copyFrom_96 : decode cX2_copyFrom 96 = .ok (.aload_n 0, 1) := by decide +kernel
theorem dX2_copyFrom_97 : decode cX2_copyFrom 97 = .ok (.aload_n 1, 1) := by decide +kernel
theorem dX2_copyFrom_98 : decode cX2_copyFrom 98 = .ok (.getfield 53, 3) := by decide +kernel
theorem dX2_copyFrom_101 : decode cX2_copyFrom 101 = .ok (.putfield 53, 3) := by decide +kernel
theorem dX2_copyFrom_104 : decode cX2_copyFrom 104 = .ok (.aload_n 0, 1) := by decide +kernel
theorem dX2_copyFrom_105 : decode cX2_copyFrom 105 = .ok (.aload_n 1, 1) := by decide +kernel
theorem dX2_copyFrom_106 : decode cX2_copyFrom 106 = .ok (.getfield 56, 3) := by decide +kernel
theorem dX2_copyFrom_109 : decode cX2_copyFrom 109 = .ok (.putfield 56, 3) := by decide +kernel
theorem dX2_copyFrom_112 : decode cX2_copyFrom 112 = .ok (.aload_n 0, 1) := by decide +kernel
theorem dX2_copyFrom_113 : decode cX2_copyFrom 113 = .ok (.aload_n 1, 1) := by decide +kernel
theorem dX2_copyFrom_114 : decode cX2_copyFrom 114 = .ok (.getfield 59, 3) := by decide +kernel
theorem dX2_copyFrom_117 : decode cX2_copyFrom 117 = .ok (.putfield 59, 3) := by decide +kernel
theorem dX2_copyFrom_120 : decode cX2_copyFrom 120 = .ok (.aload_n 0, 1) := by decide +kernel
theorem dX2_copyFrom_121 : decode cX2_copyFrom 121 = .ok (.aload_n 1, 1) := by decide +kernel
theorem dX2_copyFrom_122 : decode cX2_copyFrom 122 = .ok (.getfield 62, 3) := by decide +kernel
theorem dX2_copyFrom_125 : decode cX2_copyFrom 125 = .ok (.putfield 62, 3) := by decide +kernel
theorem dX2_copyFrom_128 : decode cX2_copyFrom 128 = .ok (.return_, 1) := by decide +kernel
theorem dX2_boardAt_0 : decode cX2_boardAt 0 = .ok (.iload_n 1, 1) := by decide +kernel
theorem dX2_boardAt_1 : decode cX2_boardAt 1 = .ok (.ifCond .lt 8, 3) := by decide +kernel
theorem dX2_boardAt_4 : decode cX2_boardAt 4 = .ok (.iload_n 1, 1) := by decide +kernel
theorem dX2_boardAt_5 : decode cX2_boardAt 5 = .ok (.iconst 4, 1) := by decide +kernel
theorem dX2_boardAt_6 : decode cX2_boardAt 6 = .ok (.if_icmp .lt 5, 3) := by decide +kernel
theorem dX2_boardAt_9 : decode cX2_boardAt 9 = .ok (.aconst_null, 1) := by decide +kernel
theorem dX2_boardAt_10 : decode cX2_boardAt 10 = .ok (.areturn, 1) := by decide +kernel
theorem dX2_boardAt_11 : decode cX2_boardAt 11 = .ok (.aload_n 0, 1) := by decide +kernel
theorem dX2_boardAt_12 : decode cX2_boardAt 12 = .ok (.getfield 27, 3) := by decide +kernel
theorem dX2_boardAt_15 : decode cX2_boardAt 15 = .ok (.iload_n 1, 1) := by decide +kernel
theorem dX2_boardAt_16 : decode cX2_boardAt 16 = .ok (.aaload, 1) := by decide +kernel
theorem dX2_boardAt_17 : decode cX2_boardAt 17 = .ok (.areturn, 1) := by decide +kernel
theorem dX2_bendOrFlatten_0 : decode cX2_bendOrFlatten 0 = .ok (.iload_n 1, 1) := by decide +kernel
theorem dX2_bendOrFlatten_1 : decode cX2_bendOrFlatten 1 = .ok (.ifCond .lt 29, 3) := by decide +kernel
theorem dX2_bendOrFlatten_4 : decode cX2_bendOrFlatten 4 = .ok (.iload_n 1, 1) := by decide +kernel
theorem dX2_bendOrFlatten_5 : decode cX2_bendOrFlatten 5 = .ok (.bipush 52, 2) := by decide +kernel
theorem dX2_bendOrFlatten_7 : decode cX2_bendOrFlatten 7 = .ok (.if_icmp .ge 23, 3) := by decide +kernel
theorem dX2_bendOrFlatten_10 : decode cX2_bendOrFlatten 10 = .ok (.aload_n 0, 1) := by decide +kernel
theorem dX2_bendOrFlatten_11 : decode cX2_bendOrFlatten 11 = .ok (.getfield 21, 3) := by decide +kernel
theorem dX2_bendOrFlatten_14 : decode cX2_bendOrFlatten 14 = .ok (.iload_n 1, 1) := by decide +kernel
theorem dX2_bendOrFlatten_15 : decode cX2_bendOrFlatten 15 = .ok (.aload_n 0, 1) := by decide +kernel
theorem dX2_bendOrFlatten_16 : decode cX2_bendOrFlatten 16 = .ok (.getfield 21, 3) := by decide +kernel
theorem dX2_bendOrFlatten_19 : decode cX2_bendOrFlatten 19 = .ok (.iload_n 1, 1) := by decide +kernel
theorem dX2_bendOrFlatten_20 : decode cX2_bendOrFlatten 20 = .ok (.baload, 1) := by decide +kernel
theorem dX2_bendOrFlatten_21 : decode cX2_bendOrFlatten 21 = .ok (.ifCond .ne 7, 3) := by decide +kernel
theorem dX2_bendOrFlatten_24 : decode cX2_bendOrFlatten 24 = .ok (.iconst 1, 1) := by decide +kernel
theorem dX2_bendOrFlatten_25 : decode cX2_bendOrFlatten 25 = .ok (.goto 4, 3) := by decide +kernel
theorem dX2_bendOrFlatten_28 : decode cX2_bendOrFlatten 28 = .ok (.iconst 0, 1) := by decide +kernel
theorem dX2_bendOrFlatten_29 : decode cX2_bendOrFlatten 29 = .ok (.bastore, 1) := by decide +kernel
theorem dX2_bendOrFlatten_30 : decode cX2_bendOrFlatten 30 = .ok (.return_, 1) := by decide +kernel
theorem dX2_countShuffle_0 : decode cX2_countShuffle 0 = .ok (.aload_n 0, 1) := by decide +kernel
theorem dX2_countShuffle_1 : decode cX2_countShuffle 1 = .ok (.iload_n 1, 1) := by decide +kernel
theorem dX2_countShuffle_2 : decode cX2_countShuffle 2 = .ok (.putfield 36, 3) := by decide +kernel
theorem dX2_countShuffle_5 : decode cX2_countShuffle 5 = .ok (.aload_n 0, 1) := by decide +kernel
theorem dX2_countShuffle_6 : decode cX2_countShuffle 6 = .ok (.dup, 1) := by decide +kernel
theorem dX2_countShuffle_7 : decode cX2_countShuffle 7 = .ok (.getfield 53, 3) := by decide +kernel
theorem dX2_countShuffle_10 : decode cX2_countShuffle 10 = .ok (.iconst 1, 1) := by decide +kernel
theorem dX2_countShuffle_11 : decode cX2_countShuffle 11 = .ok (.iadd, 1) := by decide +kernel
theorem dX2_countShuffle_12 : decode cX2_countShuffle 12 = .ok (.putfield 53, 3) := by decide +kernel
theorem dX2_countShuffle_15 : decode cX2_countShuffle 15 = .ok (.aload_n 0, 1) := by decide +kernel
theorem dX2_countShuffle_16 : decode cX2_countShuffle 16 = .ok (.iload_n 1, 1) := by decide +kernel
theorem dX2_countShuffle_17 : decode cX2_countShuffle 17 = .ok (.aload_n 0, 1) := by decide +kernel
theorem dX2_countShuffle_18 : decode cX2_countShuffle 18 = .ok (.getfield 9, 3) := by decide +kernel
theorem dX2_countShuffle_21 : decode cX2_countShuffle 21 = .ok (.iconst 0, 1) := by decide +kernel
theorem dX2_countShuffle_22 : decode cX2_countShuffle 22 = .ok (.iaload, 1) := by decide +kernel
theorem dX2_countShuffle_23 : decode cX2_countShuffle 23 = .ok (.if_icmp .gt 7, 3) := by decide +kernel
theorem dX2_countShuffle_26 : decode cX2_countShuffle 26 = .ok (.iconst 1, 1) := by decide +kernel
theorem dX2_countShuffle_27 : decode cX2_countShuffle 27 = .ok (.goto 4, 3) := by decide +kernel
theorem dX2_countShuffle_30 : decode cX2_countShuffle 30 = .ok (.iconst 0, 1) := by decide +kernel
theorem dX2_countShuffle_31 : decode cX2_countShuffle 31 = .ok (.putfield 49, 3) := by decide +kernel
theorem dX2_countShuffle_34 : decode cX2_countShuffle 34 = .ok (.aload_n 0, 1) := by decide +kernel
theorem dX2_countShuffle_35 : decode cX2_countShuffle 35 = .ok (.getfield 49, 3) := by decide +kernel
theorem dX2_countShuffle_38 : decode cX2_countShuffle 38 = .ok (.ifCond .eq 13, 3) := by decide +kernel
theorem dX2_countShuffle_41 : decode cX2_countShuffle 41 = .ok (.aload_n 0, 1) := by decide +kernel
theorem dX2_countShuffle_42 : decode cX2_countShuffle 42 = .ok (.dup, 1) := by decide +kernel
theorem dX2_countShuffle_43 : decode cX2_countShuffle 43 = .ok (.getfield 56, 3) := by decide +kernel
theorem dX2_countShuffle_46 : decode cX2_countShuffle 46 = .ok (.iconst 1, 1) := by decide +kernel
theorem dX2_countShuffle_47 : decode cX2_countShuffle 47 = .ok (.iadd, 1) := by decide +kernel
theorem dX2_countShuffle_48 : decode cX2_countShuffle 48 = .ok (.putfield 56, 3) := by decide +kernel
theorem dX2_countShuffle_51 : decode cX2_countShuffle 51 = .ok (.return_, 1) := by decide +kernel
theorem dX2_layInOrder_0 : decode cX2_layInOrder 0 = .ok (.iconst 0, 1) := by decide +kernel
theorem dX2_layInOrder_1 : decode cX2_layInOrder 1 = .ok (.istore_n 1, 1) := by decide +kernel
theorem dX2_layInOrder_2 : decode cX2_layInOrder 2 = .ok (.iconst 0, 1) := by decide +kernel
theorem dX2_layInOrder_3 : decode cX2_layInOrder 3 = .ok (.istore_n 2, 1) := by decide +kernel
theorem dX2_layInOrder_4 : decode cX2_layInOrder 4 = .ok (.iload_n 2, 1) := by decide +kernel
theorem dX2_layInOrder_5 : decode cX2_layInOrder 5 = .ok (.bipush 52, 2) := by decide +kernel
theorem dX2_layInOrder_7 : decode cX2_layInOrder 7 = .ok (.if_icmp .ge 29, 3) := by decide +kernel
theorem dX2_layInOrder_10 : decode cX2_layInOrder 10 = .ok (.aload_n 0, 1) := by decide +kernel
theorem dX2_layInOrder_11 : decode cX2_layInOrder 11 = .ok (.getfield 18, 3) := by decide +kernel
theorem dX2_layInOrder_14 : decode cX2_layInOrder 14 = .ok (.iload_n 2, 1) := by decide +kernel
theorem dX2_layInOrder_15 : decode cX2_layInOrder 15 = .ok (.iaload, 1) := by decide +kernel
theorem dX2_layInOrder_16 : decode cX2_layInOrder 16 = .ok (.iload_n 2, 1) := by decide +kernel
theorem dX2_layInOrder_17 : decode cX2_layInOrder 17 = .ok (.if_icmp .eq 6, 3) := by decide +kernel
theorem dX2_layInOrder_20 : decode cX2_layInOrder 20 = .ok (.iinc 1 1, 3) := by decide +kernel
theorem dX2_layInOrder_23 : decode cX2_layInOrder 23 = .ok (.aload_n 0, 1) := by decide +kernel
theorem dX2_layInOrder_24 : decode cX2_layInOrder 24 = .ok (.getfield 18, 3) := by decide +kernel
theorem dX2_layInOrder_27 : decode cX2_layInOrder 27 = .ok (.iload_n 2, 1) := by decide +kernel
theorem dX2_layInOrder_28 : decode cX2_layInOrder 28 = .ok (.iload_n 2, 1) := by decide +kernel
theorem dX2_layInOrder_29 : decode cX2_layInOrder 29 = .ok (.iastore, 1) := by decide +kernel
theorem dX2_layInOrder_30 : decode cX2_layInOrder 30 = .ok (.iinc 2 1, 3) := by decide +kernel
theorem dX2_layInOrder_33 : decode cX2_layInOrder 33 = .ok (.goto (-29), 3) := by decide +kernel
theorem dX2_layInOrder_36 : decode cX2_layInOrder 36 = .ok (.iload_n 1, 1) := by decide +kernel
theorem dX2_layInOrder_37 : decode cX2_layInOrder 37 = .ok (.ireturn, 1) := by decide +kernel
theorem dX2_bentCards_0 : decode cX2_bentCards 0 = .ok (.iconst 0, 1) := by decide +kernel
theorem dX2_bentCards_1 : decode cX2_bentCards 1 = .ok (.istore_n 1, 1) := by decide +kernel
theorem dX2_bentCards_2 : decode cX2_bentCards 2 = .ok (.iconst 0, 1) := by decide +kernel
theorem dX2_bentCards_3 : decode cX2_bentCards 3 = .ok (.istore_n 2, 1) := by decide +kernel
theorem dX2_bentCards_4 : decode cX2_bentCards 4 = .ok (.iload_n 2, 1) := by decide +kernel
theorem dX2_bentCards_5 : decode cX2_bentCards 5 = .ok (.bipush 52, 2) := by decide +kernel
theorem dX2_bentCards_7 : decode cX2_bentCards 7 = .ok (.if_icmp .ge 21, 3) := by decide +kernel
theorem dX2_bentCards_10 : decode cX2_bentCards 10 = .ok (.aload_n 0, 1) := by decide +kernel
theorem dX2_bentCards_11 : decode cX2_bentCards 11 = .ok (.getfield 21, 3) := by decide +kernel
theorem dX2_bentCards_14 : decode cX2_bentCards 14 = .ok (.iload_n 2, 1) := by decide +kernel
theorem dX2_bentCards_15 : decode cX2_bentCards 15 = .ok (.baload, 1) := by decide +kernel
theorem dX2_bentCards_16 : decode cX2_bentCards 16 = .ok (.ifCond .eq 6, 3) := by decide +kernel
theorem dX2_bentCards_19 : decode cX2_bentCards 19 = .ok (.iinc 1 1, 3) := by decide +kernel
theorem dX2_bentCards_22 : decode cX2_bentCards 22 = .ok (.iinc 2 1, 3) := by decide +kernel
theorem dX2_bentCards_25 : decode cX2_bentCards 25 = .ok (.goto (-21), 3) := by decide +kernel
theorem dX2_bentCards_28 : decode cX2_bentCards 28 = .ok (.iload_n 1, 1) := by decide +kernel
theorem dX2_bentCards_29 : decode cX2_bentCards 29 = .ok (.ireturn, 1) := by decide +kernel
theorem dX2_risingPairs_0 : decode cX2_risingPairs 0 = .ok (.iconst 0, 1) := by decide +kernel
theorem dX2_risingPairs_1 : decode cX2_risingPairs 1 = .ok (.istore_n 1, 1) := by decide +kernel
theorem dX2_risingPairs_2 : decode cX2_risingPairs 2 = .ok (.iconst 1, 1) := by decide +kernel
theorem dX2_risingPairs_3 : decode cX2_risingPairs 3 = .ok (.istore_n 2, 1) := by decide +kernel
theorem dX2_risingPairs_4 : decode cX2_risingPairs 4 = .ok (.iload_n 2, 1) := by decide +kernel
theorem dX2_risingPairs_5 : decode cX2_risingPairs 5 = .ok (.bipush 52, 2) := by decide +kernel
theorem dX2_risingPairs_7 : decode cX2_risingPairs 7 = .ok (.if_icmp .ge 31, 3) := by decide +kernel
theorem dX2_risingPairs_10 : decode cX2_risingPairs 10 = .ok (.aload_n 0, 1) := by decide +kernel
theorem dX2_risingPairs_11 : decode cX2_risingPairs 11 = .ok (.getfield 18, 3) := by decide +kernel
theorem dX2_risingPairs_14 : decode cX2_risingPairs 14 = .ok (.iload_n 2, 1) := by decide +kernel
theorem dX2_risingPairs_15 : decode cX2_risingPairs 15 = .ok (.iaload, 1) := by decide +kernel
theorem dX2_risingPairs_16 : decode cX2_risingPairs 16 = .ok (.aload_n 0, 1) := by decide +kernel
theorem dX2_risingPairs_17 : decode cX2_risingPairs 17 = .ok (.getfield 18, 3) := by decide +kernel
theorem dX2_risingPairs_20 : decode cX2_risingPairs 20 = .ok (.iload_n 2, 1) := by decide +kernel
theorem dX2_risingPairs_21 : decode cX2_risingPairs 21 = .ok (.iconst 1, 1) := by decide +kernel
theorem dX2_risingPairs_22 : decode cX2_risingPairs 22 = .ok (.isub, 1) := by decide +kernel
theorem dX2_risingPairs_23 : decode cX2_risingPairs 23 = .ok (.iaload, 1) := by decide +kernel
theorem dX2_risingPairs_24 : decode cX2_risingPairs 24 = .ok (.iconst 1, 1) := by decide +kernel
theorem dX2_risingPairs_25 : decode cX2_risingPairs 25 = .ok (.iadd, 1) := by decide +kernel
theorem dX2_risingPairs_26 : decode cX2_risingPairs 26 = .ok (.if_icmp .ne 6, 3) := by decide +kernel
theorem dX2_risingPairs_29 : decode cX2_risingPairs 29 = .ok (.iinc 1 1, 3) := by decide +kernel
theorem dX2_risingPairs_32 : decode cX2_risingPairs 32 = .ok (.iinc 2 1, 3) := by decide +kernel
theorem dX2_risingPairs_35 : decode cX2_risingPairs 35 = .ok (.goto (-31), 3) := by decide +kernel
theorem dX2_risingPairs_38 : decode cX2_risingPairs 38 = .ok (.iload_n 1, 1) := by decide +kernel
theorem dX2_risingPairs_39 : decode cX2_risingPairs 39 = .ok (.ireturn, 1) := by decide +kernel
theorem dX2_boardsWithCards_0 : decode cX2_boardsWithCards 0 = .ok (.iconst 0, 1) := by decide +kernel
theorem dX2_boardsWithCards_1 : decode cX2_boardsWithCards 1 = .ok (.istore_n 1, 1) := by decide +kernel
theorem dX2_boardsWithCards_2 : decode cX2_boardsWithCards 2 = .ok (.iconst 0, 1) := by decide +kernel
theorem dX2_boardsWithCards_3 : decode cX2_boardsWithCards 3 = .ok (.istore_n 2, 1) := by decide +kernel
theorem dX2_boardsWithCards_4 : decode cX2_boardsWithCards 4 = .ok (.iload_n 2, 1) := by decide +kernel
theorem dX2_boardsWithCards_5 : decode cX2_boardsWithCards 5 = .ok (.iconst 4, 1) := by decide +kernel
theorem dX2_boardsWithCards_6 : decode cX2_boardsWithCards 6 = .ok (.if_icmp .ge 24, 3) := by decide +kernel
theorem dX2_boardsWithCards_9 : decode cX2_boardsWithCards 9 = .ok (.aload_n 0, 1) := by decide +kernel
theorem dX2_boardsWithCards_10 : decode cX2_boardsWithCards 10 = .ok (.getfield 27, 3) := by decide +kernel
theorem dX2_boardsWithCards_13 : decode cX2_boardsWithCards 13 = .ok (.iload_n 2, 1) := by decide +kernel
theorem dX2_boardsWithCards_14 : decode cX2_boardsWithCards 14 = .ok (.aaload, 1) := by decide +kernel
theorem dX2_boardsWithCards_15 : decode cX2_boardsWithCards 15 = .ok (.getfield 65, 3) := by decide +kernel
theorem dX2_boardsWithCards_18 : decode cX2_boardsWithCards 18 = .ok (.ifCond .eq 6, 3) := by decide +kernel
theorem dX2_boardsWithCards_21 : decode cX2_boardsWithCards 21 = .ok (.iinc 1 1, 3) := by decide +kernel
theorem dX2_boardsWithCards_24 : decode cX2_boardsWithCards 24 = .ok (.iinc 2 1, 3) := by decide +kernel
theorem dX2_boardsWithCards_27 : decode cX2_boardsWithCards 27 = .ok (.goto (-23), 3) := by decide +kernel
theorem dX2_boardsWithCards_30 : decode cX2_boardsWithCards 30 = .ok (.iload_n 1, 1) := by decide +kernel
theorem dX2_boardsWithCards_31 : decode cX2_boardsWithCards 31 = .ok (.ireturn, 1) := by decide +kernel
theorem dX2_sealedBoards_0 : decode cX2_sealedBoards 0 = .ok (.iconst 0, 1) := by decide +kernel
theorem dX2_sealedBoards_1 : decode cX2_sealedBoards 1 = .ok (.istore_n 1, 1) := by decide +kernel
theorem dX2_sealedBoards_2 : decode cX2_sealedBoards 2 = .ok (.iconst 0, 1) := by decide +kernel
theorem dX2_sealedBoards_3 : decode cX2_sealedBoards 3 = .ok (.istore_n 2, 1) := by decide +kernel
theorem dX2_sealedBoards_4 : decode cX2_sealedBoards 4 = .ok (.iload_n 2, 1) := by decide +kernel
theorem dX2_sealedBoards_5 : decode cX2_sealedBoards 5 = .ok (.iconst 4, 1) := by decide +kernel
theorem dX2_sealedBoards_6 : decode cX2_sealedBoards 6 = .ok (.if_icmp .ge 24, 3) := by decide +kernel
theorem dX2_sealedBoards_9 : decode cX2_sealedBoards 9 = .ok (.aload_n 0, 1) := by decide +kernel
theorem dX2_sealedBoards_10 : decode cX2_sealedBoards 10 = .ok (.getfield 27, 3) := by decide +kernel
theorem dX2_sealedBoards_13 : decode cX2_sealedBoards 13 = .ok (.iload_n 2, 1) := by decide +kernel
theorem dX2_sealedBoards_14 : decode cX2_sealedBoards 14 = .ok (.aaload, 1) := by decide +kernel
theorem dX2_sealedBoards_15 : decode cX2_sealedBoards 15 = .ok (.getfield 68, 3) := by decide +kernel
theorem dX2_sealedBoards_18 : decode cX2_sealedBoards 18 = .ok (.ifCond .eq 6, 3) := by decide +kernel
theorem dX2_sealedBoards_21 : decode cX2_sealedBoards 21 = .ok (.iinc 1 1, 3) := by decide +kernel
theorem dX2_sealedBoards_24 : decode cX2_sealedBoards 24 = .ok (.iinc 2 1, 3) := by decide +kernel
theorem dX2_sealedBoards_27 : decode cX2_sealedBoards 27 = .ok (.goto (-23), 3) := by decide +kernel
theorem dX2_sealedBoards_30 : decode cX2_sealedBoards 30 = .ok (.iload_n 1, 1) := by decide +kernel
theorem dX2_sealedBoards_31 : decode cX2_sealedBoards 31 = .ok (.ireturn, 1) := by decide +kernel
theorem dX3_init_0 : decode cX3_init 0 = .ok (.aload_n 0, 1) := by decide +kernel
theorem dX3_init_1 : decode cX3_init 1 = .ok (.invokespecial 3, 3) := by decide +kernel
theorem dX3_init_4 : decode cX3_init 4 = .ok (.aload_n 0, 1) := by decide +kernel
theorem dX3_init_5 : decode cX3_init 5 = .ok (.bipush 52, 2) := by decide +kernel
theorem dX3_init_7 : decode cX3_init 7 = .ok (.newarray .int, 2) := by decide +kernel
theorem dX3_init_9 : decode cX3_init 9 = .ok (.putfield 9, 3) := by decide +kernel
theorem dX3_init_12 : decode cX3_init 12 = .ok (.aload_n 0, 1) := by decide +kernel
theorem dX3_init_13 : decode cX3_init 13 = .ok (.bipush 52, 2) := by decide +kernel
theorem dX3_init_15 : decode cX3_init 15 = .ok (.newarray .int, 2) := by decide +kernel
theorem dX3_init_17 : decode cX3_init 17 = .ok (.putfield 15, 3) := by decide +kernel
theorem dX3_init_20 : decode cX3_init 20 = .ok (.aload_n 0, 1) := by decide +kernel
theorem dX3_init_21 : decode cX3_init 21 = .ok (.bipush 52, 2) := by decide +kernel
theorem dX3_init_23 : decode cX3_init 23 = .ok (.newarray .int, 2) := by decide +kernel
theorem dX3_init_25 : decode cX3_init 25 = .ok (.putfield 18, 3) := by decide +kernel
theorem dX3_init_28 : decode cX3_init 28 = .ok (.aload_n 0, 1) := by decide +kernel
theorem dX3_init_29 : decode cX3_init 29 = .ok (.bipush 52, 2) := by decide +kernel
theorem dX3_init_31 : decode cX3_init 31 = .ok (.newarray .int, 2) := by decide +kernel
theorem dX3_init_33 : decode cX3_init 33 = .ok (.putfield 21, 3) := by decide +kernel
theorem dX3_init_36 : decode cX3_init 36 = .ok (.aload_n 0, 1) := by decide +kernel
theorem dX3_init_37 : decode cX3_init 37 = .ok (.bipush 52, 2) := by decide +kernel
theorem dX3_init_39 : decode cX3_init 39 = .ok (.newarray .boolean, 2) := by decide +kernel
theorem dX3_init_41 : decode cX3_init 41 = .ok (.putfield 24, 3) := by decide +kernel
theorem dX3_init_44 : decode cX3_init 44 = .ok (.return_, 1) := by decide +kernel
theorem dX3_begin_0 : decode cX3_begin 0 = .ok (.aload_n 1, 1) := by decide +kernel
theorem dX3_begin_1 : decode cX3_begin 1 = .ok (.getfield 28, 3) := by decide +kernel
theorem dX3_begin_4 : decode cX3_begin 4 = .ok (.iconst 0, 1) := by decide +kernel
theorem dX3_begin_5 : decode cX3_begin 5 = .ok (.aload_n 0, 1) := by decide +kernel
theorem dX3_begin_6 : decode cX3_begin 6 = .ok (.getfield 9, 3) := by decide +kernel
theorem dX3_begin_9 : decode cX3_begin 9 = .ok (.iconst 0, 1) := by decide +kernel
theorem dX3_begin_10 : decode cX3_begin 10 = .ok (.bipush 52, 2) := by decide +kernel
theorem dX3_begin_12 : decode cX3_begin 12 = .ok (.invokestatic 31, 3) := by decide +kernel
theorem dX3_begin_15 : decode cX3_begin 15 = .ok (.aload_n 1, 1) := by decide +kernel
theorem dX3_begin_16 : decode cX3_begin 16 = .ok (.getfield 28, 3) := by decide +kernel
theorem dX3_begin_19 : decode cX3_begin 19 = .ok (.iconst 0, 1) := by decide +kernel
theorem dX3_begin_20 : decode cX3_begin 20 = .ok (.aload_n 0, 1) := by decide +kernel
theorem dX3_begin_21 : decode cX3_begin 21 = .ok (.getfield 15, 3) := by decide +kernel
theorem dX3_begin_24 : decode cX3_begin 24 = .ok (.iconst 0, 1) := by decide +kernel
theorem dX3_begin_25 : decode cX3_begin 25 = .ok (.bipush 52, 2) := by decide +kernel
theorem dX3_begin_27 : decode cX3_begin 27 = .ok (.invokestatic 31, 3) := by decide +kernel
theorem dX3_begin_30 : decode cX3_begin 30 = .ok (.aload_n 1, 1) := by decide +kernel
theorem dX3_begin_31 : decode cX3_begin 31 = .ok (.getfield 37, 3) := by decide +kernel
theorem dX3_begin_34 : decode cX3_begin 34 = .ok (.iconst 0, 1) := by decide +kernel
theorem dX3_begin_35 : decode cX3_begin 35 = .ok (.aload_n 0, 1) := by decide +kernel
theorem dX3_begin_36 : decode cX3_begin 36 = .ok (.getfield 24, 3) := by decide +kernel
theorem dX3_begin_39 : decode cX3_begin 39 = .ok (.iconst 0, 1) := by decide +kernel
theorem dX3_begin_40 : decode cX3_begin 40 = .ok (.bipush 52, 2) := by decide +kernel
theorem dX3_begin_42 : decode cX3_begin 42 = .ok (.invokestatic 31, 3) := by decide +kernel
theorem dX3_begin_45 : decode cX3_begin 45 = .ok (.aload_n 0, 1) := by decide +kernel
theorem dX3_begin_46 : decode cX3_begin 46 = .ok (.aload_n 1, 1) := by decide +kernel
theorem dX3_begin_47 : decode cX3_begin 47 = .ok (.getfield 38, 3) := by decide +kernel
theorem dX3_begin_50 : decode cX3_begin 50 = .ok (.putfield 42, 3) := by decide +kernel
theorem dX3_begin_53 : decode cX3_begin 53 = .ok (.return_, 1) := by decide +kernel
theorem dX3_flatten_0 : decode cX3_flatten 0 = .ok (.iload_n 1, 1) := by decide +kernel
theorem dX3_flatten_1 : decode cX3_flatten 1 = .ok (.ifCond .lt 16, 3) := by decide +kernel
theorem dX3_flatten_4 : decode cX3_flatten 4 = .ok (.iload_n 1, 1) := by decide +kernel
theorem dX3_flatten_5 : decode cX3_flatten 5 = .ok (.bipush 52, 2) := by decide +kernel
theorem dX3_flatten_7 : decode cX3_flatten 7 = .ok (.if_icmp .ge 10, 3) := by decide +kernel
theorem dX3_flatten_10 : decode cX3_flatten 10 = .ok (.aload_n 0, 1) := by decide +kernel
theorem dX3_flatten_11 : decode cX3_flatten 11 = .ok (.getfield 24, 3) := by decide +kernel
theorem dX3_flatten_14 : decode cX3_flatten 14 = .ok (.iload_n 1, 1) := by decide +kernel
theorem dX3_flatten_15 : decode cX3_flatten 15 = .ok (.iconst 0, 1) := by decide +kernel
theorem dX3_flatten_16 : decode cX3_flatten 16 = .ok (.bastore, 1) := by decide +kernel
theorem dX3_flatten_17 : decode cX3_flatten 17 = .ok (.return_, 1) := by decide +kernel
theorem dX3_riffleTimes_0 : decode cX3_riffleTimes 0 = .ok (.iconst 0, 1) := by decide +kernel
theorem dX3_riffleTimes_1 : decode cX3_riffleTimes 1 = .ok (.istore_n 2, 1) := by decide +kernel
theorem dX3_riffleTimes_2 : decode cX3_riffleTimes 2 = .ok (.iload_n 2, 1) := by decide +kernel
theorem dX3_riffleTimes_3 : decode cX3_riffleTimes 3 = .ok (.iload_n 1, 1) := by decide +kernel
theorem dX3_riffleTimes_4 : decode cX3_riffleTimes 4 = .ok (.if_icmp .ge 13, 3) := by decide +kernel
theorem dX3_riffleTimes_7 : decode cX3_riffleTimes 7 = .ok (.aload_n 0, 1) := by decide +kernel
theorem dX3_riffleTimes_8 : decode cX3_riffleTimes 8 = .ok (.invokevirtual 43, 3) := by decide +kernel
theorem dX3_riffleTimes_11 : decode cX3_riffleTimes 11 = .ok (.iinc 2 1, 3) := by decide +kernel
theorem dX3_riffleTimes_14 : decode cX3_riffleTimes 14 = .ok (.goto (-12), 3) := by decide +kernel
theorem dX3_riffleTimes_17 : decode cX3_riffleTimes 17 = .ok (.return_, 1) := by decide +kernel
theorem dX3_riffleOnce_0 : decode cX3_riffleOnce 0 = .ok (.aload_n 0, 1) := by decide +kernel
theorem dX3_riffleOnce_1 : decode cX3_riffleOnce 1 = .ok (.getfield 15, 3) := by decide +kernel
theorem dX3_riffleOnce_4 : decode cX3_riffleOnce 4 = .ok (.iconst 0, 1) := by decide +kernel
theorem dX3_riffleOnce_5 : decode cX3_riffleOnce 5 = .ok (.aload_n 0, 1) := by decide +kernel
theorem dX3_riffleOnce_6 : decode cX3_riffleOnce 6 = .ok (.getfield 18, 3) := by decide +kernel
theorem dX3_riffleOnce_9 : decode cX3_riffleOnce 9 = .ok (.iconst 0, 1) := by decide +kernel
theorem dX3_riffleOnce_10 : decode cX3_riffleOnce 10 = .ok (.bipush 52, 2) := by decide +kernel
theorem dX3_riffleOnce_12 : decode cX3_riffleOnce 12 = .ok (.invokestatic 31, 3) := by decide +kernel
theorem dX3_riffleOnce_15 : decode cX3_riffleOnce 15 = .ok (.bipush 24, 2) := by decide +kernel
theorem dX3_riffleOnce_17 : decode cX3_riffleOnce 17 = .ok (.aload_n 0, 1) := by decide +kernel
theorem dX3_riffleOnce_18 : decode cX3_riffleOnce 18 = .ok (.iconst 5, 1) := by decide +kernel
theorem dX3_riffleOnce_19 : decode cX3_riffleOnce 19 = .ok (.invokevirtual 46, 3) := by decide +kernel
theorem dX3_riffleOnce_22 : decode cX3_riffleOnce 22 = .ok (.iadd, 1) := by decide +kernel
theorem dX3_riffleOnce_23 : decode cX3_riffleOnce 23 = .ok (.istore_n 1, 1) := by decide +kernel
theorem dX3_riffleOnce_24 : decode cX3_riffleOnce 24 = .ok (.iconst 0, 1) := by decide +kernel
theorem dX3_riffleOnce_25 : decode cX3_riffleOnce 25 = .ok (.istore_n 2, 1) := by decide +kernel
theorem dX3_riffleOnce_26 : decode cX3_riffleOnce 26 = .ok (.iload_n 1, 1) := by decide +kernel
theorem dX3_riffleOnce_27 : decode cX3_riffleOnce 27 = .ok (.istore_n 3, 1) := by decide +kernel
theorem dX3_riffleOnce_28 : decode cX3_riffleOnce 28 = .ok (.iconst 0, 1) := by decide +kernel
theorem dX3_riffleOnce_29 : decode cX3_riffleOnce 29 = .ok (.istore 4, 2) := by decide +kernel
theorem dX3_riffleOnce_31 : decode cX3_riffleOnce 31 = .ok (.iconst 0, 1) := by decide +kernel
theorem dX3_riffleOnce_32 : decode cX3_riffleOnce 32 = .ok (.istore 5, 2) := by decide +kernel
theorem dX3_riffleOnce_34 : decode cX3_riffleOnce 34 = .ok (.iconst 0, 1) := by decide +kernel
theorem dX3_riffleOnce_35 : decode cX3_riffleOnce 35 = .ok (.istore 6, 2) := by decide +kernel
theorem dX3_riffleOnce_37 : decode cX3_riffleOnce 37 = .ok (.iload 6, 2) := by decide +kernel
theorem dX3_riffleOnce_39 : decode cX3_riffleOnce 39 = .ok (.bipush 52, 2) := by decide +kernel
theorem dX3_riffleOnce_41 : decode cX3_riffleOnce 41 = .ok (.if_icmp .ge 124, 3) := by decide +kernel
theorem dX3_riffleOnce_44 : decode cX3_riffleOnce 44 = .ok (.iload_n 2, 1) := by decide +kernel
theorem dX3_riffleOnce_45 : decode cX3_riffleOnce 45 = .ok (.iload_n 1, 1) := by decide +kernel
theorem dX3_riffleOnce_46 : decode cX3_riffleOnce 46 = .ok (.if_icmp .lt 9, 3) := by decide +kernel
theorem dX3_riffleOnce_49 : decode cX3_riffleOnce 49 = .ok (.iload_n 3, 1) := by decide +kernel
theorem dX3_riffleOnce_50 : decode cX3_riffleOnce 50 = .ok (.bipush 52, 2) := by decide +kernel
theorem dX3_riffleOnce_52 : decode cX3_riffleOnce 52 = .ok (.if_icmp .ge 113, 3) := by decide +kernel
theorem dX3_riffleOnce_55 : decode cX3_riffleOnce 55 = .ok (.iload_n 2, 1) := by decide +kernel
theorem dX3_riffleOnce_56 : decode cX3_riffleOnce 56 = .ok (.iload_n 1, 1) := by decide +kernel
theorem dX3_riffleOnce_57 : decode cX3_riffleOnce 57 = .ok (.if_icmp .ge 9, 3) := by decide +kernel
theorem dX3_riffleOnce_60 : decode cX3_riffleOnce 60 = .ok (.iload_n 3, 1) := by decide +kernel
theorem dX3_riffleOnce_61 : decode cX3_riffleOnce 61 = .ok (.bipush 52, 2) := by decide +kernel
theorem dX3_riffleOnce_63 : decode cX3_riffleOnce 63 = .ok (.if_icmp .lt 18, 3) := by decide +kernel
theorem dX3_riffleOnce_66 : decode cX3_riffleOnce 66 = .ok (.iload_n 2, 1) := by decide +kernel
theorem dX3_riffleOnce_67 : decode cX3_riffleOnce 67 = .ok (.iload_n 1, 1) := by decide +kernel
theorem dX3_riffleOnce_68 : decode cX3_riffleOnce 68 = .ok (.if_icmp .ge 7, 3) := by decide +kernel
theorem dX3_riffleOnce_71 : decode cX3_riffleOnce 71 = .ok (.iconst 1, 1) := by decide +kernel
theorem dX3_riffleOnce_72 : decode cX3_riffleOnce 72 = .ok (.goto 4, 3) := by decide +kernel
theorem dX3_riffleOnce_75 : decode cX3_riffleOnce 75 = .ok (.iconst 0, 1) := by decide +kernel
theorem dX3_riffleOnce_76 : decode cX3_riffleOnce 76 = .ok (.istore 4, 2) := by decide +kernel
theorem dX3_riffleOnce_78 : decode cX3_riffleOnce 78 = .ok (.goto 33, 3) := by decide +kernel
theorem dX3_riffleOnce_81 : decode cX3_riffleOnce 81 = .ok (.iload 5, 2) := by decide +kernel
theorem dX3_riffleOnce_83 : decode cX3_riffleOnce 83 = .ok (.ifCond .ne 28, 3) := by decide +kernel
theorem dX3_riffleOnce_86 : decode cX3_riffleOnce 86 = .ok (.aload_n 0, 1) := by decide +kernel
theorem dX3_riffleOnce_87 : decode cX3_riffleOnce 87 = .ok (.iload_n 1, 1) := by decide +kernel
theorem dX3_riffleOnce_88 : decode cX3_riffleOnce 88 = .ok (.iload_n 2, 1) := by decide +kernel
theorem dX3_riffleOnce_89 : decode cX3_riffleOnce 89 = .ok (.isub, 1) := by decide +kernel
theorem dX3_riffleOnce_90 : decode cX3_riffleOnce 90 = .ok (.bipush 52, 2) := by decide +kernel
theorem dX3_riffleOnce_92 : decode cX3_riffleOnce 92 = .ok (.iadd, 1) := by decide +kernel
theorem dX3_riffleOnce_93 : decode cX3_riffleOnce 93 = .ok (.iload_n 3, 1) := by decide +kernel
theorem dX3_riffleOnce_94 : decode cX3_riffleOnce 94 = .ok (.isub, 1) := by decide +kernel
theorem dX3_riffleOnce_95 : decode cX3_riffleOnce 95 = .ok (.invokevirtual 46, 3) := by decide +kernel
theorem dX3_riffleOnce_98 : decode cX3_riffleOnce 98 = .ok (.iload_n 1, 1) := by decide +kernel
theorem dX3_riffleOnce_99 : decode cX3_riffleOnce 99 = .ok (.iload_n 2, 1) := by decide +kernel
theorem dX3_riffleOnce_100 : decode cX3_riffleOnce 100 = .ok (.isub, 1) := by decide +kernel
theorem dX3_riffleOnce_101 : decode cX3_riffleOnce 101 = .ok (.if_icmp .ge 7, 3) := by decide +kernel
theorem dX3_riffleOnce_104 : decode cX3_riffleOnce 104 = .ok (.iconst 1, 1) := by decide +kernel
theorem dX3_riffleOnce_105 : decode cX3_riffleOnce 105 = .ok (.goto 4, 3) := by decide +kernel
theorem dX3_riffleOnce_108 : decode cX3_riffleOnce 108 = .ok (.iconst 0, 1) := by decide +kernel
theorem dX3_riffleOnce_109 : decode cX3_riffleOnce 109 = .ok (.istore 4, 2) := by decide +kernel
theorem dX3_riffleOnce_111 : decode cX3_riffleOnce 111 = .ok (.aload_n 0, 1) := by decide +kernel
theorem dX3_riffleOnce_112 : decode cX3_riffleOnce 112 = .ok (.getfield 18, 3) := by decide +kernel
theorem dX3_riffleOnce_115 : decode cX3_riffleOnce 115 = .ok (.iload 4, 2) := by decide +kernel
theorem dX3_riffleOnce_117 : decode cX3_riffleOnce 117 = .ok (.ifCond .eq 7, 3) := by decide +kernel
theorem dX3_riffleOnce_120 : decode cX3_riffleOnce 120 = .ok (.iload_n 2, 1) := by decide +kernel
theorem dX3_riffleOnce_121 : decode cX3_riffleOnce 121 = .ok (.goto 4, 3) := by decide +kernel
theorem dX3_riffleOnce_124 : decode cX3_riffleOnce 124 = .ok (.iload_n 3, 1) := by decide +kernel
theorem dX3_riffleOnce_125 : decode cX3_riffleOnce 125 = .ok (.iaload, 1) := by decide +kernel
theorem dX3_riffleOnce_126 : decode cX3_riffleOnce 126 = .ok (.istore 7, 2) := by decide +kernel
theorem dX3_riffleOnce_128 : decode cX3_riffleOnce 128 = .ok (.aload_n 0, 1) := by decide +kernel
theorem dX3_riffleOnce_129 : decode cX3_riffleOnce 129 = .ok (.getfield 15, 3) := by decide +kernel
theorem dX3_riffleOnce_132 : decode cX3_riffleOnce 132 = .ok (.iload 6, 2) := by decide +kernel
theorem dX3_riffleOnce_134 : decode cX3_riffleOnce 134 = .ok (.iload 7, 2) := by decide +kernel
theorem dX3_riffleOnce_136 : decode cX3_riffleOnce 136 = .ok (.iastore, 1) := by decide +kernel
theorem dX3_riffleOnce_137 : decode cX3_riffleOnce 137 = .ok (.aload_n 0, 1) := by decide +kernel
theorem dX3_riffleOnce_138 : decode cX3_riffleOnce 138 = .ok (.iload 7, 2) := by decide +kernel
theorem dX3_riffleOnce_140 : decode cX3_riffleOnce 140 = .ok (.invokevirtual 50, 3) := by decide +kernel
theorem dX3_riffleOnce_143 : decode cX3_riffleOnce 143 = .ok (.istore 5, 2) := by decide +kernel
theorem dX3_riffleOnce_145 : decode cX3_riffleOnce 145 = .ok (.iload 4, 2) := by decide +kernel
theorem dX3_riffleOnce_147 : decode cX3_riffleOnce 147 = .ok (.ifCond .eq 9, 3) := by decide +kernel
theorem dX3_riffleOnce_150 : decode cX3_riffleOnce 150 = .ok (.iinc 2 1, 3) := by decide +kernel
theorem dX3_riffleOnce_153 : decode cX3_riffleOnce 153 = .ok (.goto 6, 3) := by decide +kernel
theorem dX3_riffleOnce_156 : decode cX3_riffleOnce 156 = .ok (.iinc 3 1, 3) := by decide +kernel
theorem dX3_riffleOnce_159 : decode cX3_riffleOnce 159 = .ok (.iinc 6 1, 3) := by decide +kernel
theorem dX3_riffleOnce_162 : decode cX3_riffleOnce 162 = .ok (.goto (-125), 3) := by decide +kernel
theorem dX3_riffleOnce_165 : decode cX3_riffleOnce 165 = .ok (.return_, 1) := by decide +kernel
theorem dX3_drawBelow_0 : decode cX3_drawBelow 0 = .ok (.aload_n 0, 1) := by decide +kernel
theorem dX3_drawBelow_1 : decode cX3_drawBelow 1 = .ok (.aload_n 0, 1) := by decide +kernel
theorem dX3_drawBelow_2 : decode cX3_drawBelow 2 = .ok (.getfield 42, 3) := by decide +kernel
theorem dX3_drawBelow_5 : decode cX3_drawBelow 5 = .ok (.i2l, 1) := by decide +kernel
theorem dX3_drawBelow_6 : decode cX3_drawBelow 6 = .ok (.ldc2_w 54, 3) := by decide +kernel
theorem dX3_drawBelow_9 : decode cX3_drawBelow 9 = .ok (.lmul, 1) := by decide +kernel
theorem dX3_drawBelow_10 : decode cX3_drawBelow 10 = .ok (.ldc2_w 56, 3) := by decide +kernel
theorem dX3_drawBelow_13 : decode cX3_drawBelow 13 = .ok (.ladd, 1) := by decide +kernel
theorem dX3_drawBelow_14 : decode cX3_drawBelow 14 = .ok (.ldc2_w 58, 3) := by decide +kernel
theorem dX3_drawBelow_17 : decode cX3_drawBelow 17 = .ok (.lrem, 1) := by decide +kernel
theorem dX3_drawBelow_18 : decode cX3_drawBelow 18 = .ok (.l2i, 1) := by decide +kernel
theorem dX3_drawBelow_19 : decode cX3_drawBelow 19 = .ok (.putfield 42, 3) := by decide +kernel
theorem dX3_drawBelow_22 : decode cX3_drawBelow 22 = .ok (.iload_n 1, 1) := by decide +kernel
theorem dX3_drawBelow_23 : decode cX3_drawBelow 23 = .ok (.iconst 1, 1) := by decide +kernel
theorem dX3_drawBelow_24 : decode cX3_drawBelow 24 = .ok (.if_icmp .ge 5, 3) := by decide +kernel
theorem dX3_drawBelow_27 : decode cX3_drawBelow 27 = .ok (.iconst 0, 1) := by decide +kernel
theorem dX3_drawBelow_28 : decode cX3_drawBelow 28 = .ok (.ireturn, 1) := by decide +kernel
theorem dX3_drawBelow_29 : decode cX3_drawBelow 29 = .ok (.aload_n 0, 1) := by decide +kernel
theorem dX3_drawBelow_30 : decode cX3_drawBelow 30 = .ok (.getfield 42, 3) := by decide +kernel
theorem dX3_drawBelow_33 : decode cX3_drawBelow 33 = .ok (.ldc 60, 2) := by decide +kernel
theorem dX3_drawBelow_35 : decode cX3_drawBelow 35 = .ok (.idiv, 1) := by decide +kernel
theorem dX3_drawBelow_36 : decode cX3_drawBelow 36 = .ok (.iload_n 1, 1) := by decide +kernel
theorem dX3_drawBelow_37 : decode cX3_drawBelow 37 = .ok (.irem, 1) := by decide +kernel
theorem dX3_drawBelow_38 : decode cX3_drawBelow 38 = .ok (.ireturn, 1) := by decide +kernel
theorem dX3_isBent_0 : decode cX3_isBent 0 = .ok (.iload_n 1, 1) := by decide +kernel
theorem dX3_isBent_1 : decode cX3_isBent 1 = .ok (.ifCond .lt 22, 3) := by decide +kernel
theorem dX3_isBent_4 : decode cX3_isBent 4 = .ok (.iload_n 1, 1) := by decide +kernel
theorem dX3_isBent_5 : decode cX3_isBent 5 = .ok (.bipush 52, 2) := by decide +kernel
theorem dX3_isBent_7 : decode cX3_isBent 7 = .ok (.if_icmp .ge 16, 3) := by decide +kernel
theorem dX3_isBent_10 : decode cX3_isBent 10 = .ok (.aload_n 0, 1) := by decide +kernel
theorem dX3_isBent_11 : decode cX3_isBent 11 = .ok (.getfield 24, 3) := by decide +kernel
theorem dX3_isBent_14 : decode cX3_isBent 14 = .ok (.iload_n 1, 1) := by decide +kernel
theorem dX3_isBent_15 : decode cX3_isBent 15 = .ok (.baload, 1) := by decide +kernel
theorem dX3_isBent_16 : decode cX3_isBent 16 = .ok (.ifCond .eq 7, 3) := by decide +kernel
theorem dX3_isBent_19 : decode cX3_isBent 19 = .ok (.iconst 1, 1) := by decide +kernel
theorem dX3_isBent_20 : decode cX3_isBent 20 = .ok (.goto 4, 3) := by decide +kernel
theorem dX3_isBent_23 : decode cX3_isBent 23 = .ok (.iconst 0, 1) := by decide +kernel
theorem dX3_isBent_24 : decode cX3_isBent 24 = .ok (.ireturn, 1) := by decide +kernel
theorem dX3_keptPairs_0 : decode cX3_keptPairs 0 = .ok (.iload_n 1, 1) := by decide +kernel
theorem dX3_keptPairs_1 : decode cX3_keptPairs 1 = .ok (.ifCond .ne 16, 3) := by decide +kernel
theorem dX3_keptPairs_4 : decode cX3_keptPairs 4 = .ok (.aload_n 0, 1) := by decide +kernel
theorem dX3_keptPairs_5 : decode cX3_keptPairs 5 = .ok (.aload_n 0, 1) := by decide +kernel
theorem dX3_keptPairs_6 : decode cX3_keptPairs 6 = .ok (.getfield 9, 3) := by decide +kernel
theorem dX3_keptPairs_9 : decode cX3_keptPairs 9 = .ok (.aload_n 0, 1) := by decide +kernel
theorem dX3_keptPairs_10 : decode cX3_keptPairs 10 = .ok (.getfield 15, 3) := by decide +kernel
theorem dX3_keptPairs_13 : decode cX3_keptPairs 13 = .ok (.invokevirtual 61, 3) := by decide +kernel
theorem dX3_keptPairs_16 : decode cX3_keptPairs 16 = .ok (.ireturn, 1) := by decide +kernel
theorem dX3_keptPairs_17 : decode cX3_keptPairs 17 = .ok (.aload_n 0, 1) := by decide +kernel
theorem dX3_keptPairs_18 : decode cX3_keptPairs 18 = .ok (.aload_n 0, 1) := by decide +kernel
theorem dX3_keptPairs_19 : decode cX3_keptPairs 19 = .ok (.getfield 15, 3) := by decide +kernel
theorem dX3_keptPairs_22 : decode cX3_keptPairs 22 = .ok (.aload_n 0, 1) := by decide +kernel
theorem dX3_keptPairs_23 : decode cX3_keptPairs 23 = .ok (.getfield 9, 3) := by decide +kernel
theorem dX3_keptPairs_26 : decode cX3_keptPairs 26 = .ok (.invokevirtual 61, 3) := by decide +kernel
theorem dX3_keptPairs_29 : decode cX3_keptPairs 29 = .ok (.ireturn, 1) := by decide +kernel
theorem dX3_pairsFound_0 : decode cX3_pairsFound 0 = .ok (.aload_n 0, 1) := by decide +kernel
theorem dX3_pairsFound_1 : decode cX3_pairsFound 1 = .ok (.aload_n 2, 1) := by decide +kernel
theorem dX3_pairsFound_2 : decode cX3_pairsFound 2 = .ok (.invokevirtual 65, 3) := by decide +kernel
theorem dX3_pairsFound_5 : decode cX3_pairsFound 5 = .ok (.iconst 0, 1) := by decide +kernel
theorem dX3_pairsFound_6 : decode cX3_pairsFound 6 = .ok (.istore_n 3, 1) := by decide +kernel
theorem dX3_pairsFound_7 : decode cX3_pairsFound 7 = .ok (.iconst 1, 1) := by decide +kernel
theorem dX3_pairsFound_8 : decode cX3_pairsFound 8 = .ok (.istore 4, 2) := by decide +kernel
theorem dX3_pairsFound_10 : decode cX3_pairsFound 10 = .ok (.iload 4, 2) := by decide +kernel
theorem dX3_pairsFound_12 : decode cX3_pairsFound 12 = .ok (.bipush 52, 2) := by decide +kernel
theorem dX3_pairsFound_14 : decode cX3_pairsFound 14 = .ok (.if_icmp .ge 35, 3) := by decide +kernel
theorem dX3_pairsFound_17 : decode cX3_pairsFound 17 = .ok (.aload_n 0, 1) := by decide +kernel
theorem dX3_pairsFound_18 : decode cX3_pairsFound 18 = .ok (.aload_n 1, 1) := by decide +kernel
theorem dX3_pairsFound_19 : decode cX3_pairsFound 19 = .ok (.iload 4, 2) := by decide +kernel
theorem dX3_pairsFound_21 : decode cX3_pairsFound 21 = .ok (.iaload, 1) := by decide +kernel
theorem dX3_pairsFound_22 : decode cX3_pairsFound 22 = .ok (.invokevirtual 69, 3) := by decide +kernel
theorem dX3_pairsFound_25 : decode cX3_pairsFound 25 = .ok (.aload_n 0, 1) := by decide +kernel
theorem dX3_pairsFound_26 : decode cX3_pairsFound 26 = .ok (.aload_n 1, 1) := by decide +kernel
theorem dX3_pairsFound_27 : decode cX3_pairsFound 27 = .ok (.iload 4, 2) := by decide +kernel
theorem dX3_pairsFound_29 : decode cX3_pairsFound 29 = .ok (.iconst 1, 1) := by decide +kernel
theorem dX3_pairsFound_30 : decode cX3_pairsFound 30 = .ok (.isub, 1) := by decide +kernel
theorem dX3_pairsFound_31 : decode cX3_pairsFound 31 = .ok (.iaload, 1) := by decide +kernel
theorem dX3_pairsFound_32 : decode cX3_pairsFound 32 = .ok (.invokevirtual 69, 3) := by decide +kernel
theorem dX3_pairsFound_35 : decode cX3_pairsFound 35 = .ok (.iconst 1, 1) := by decide +kernel
theorem dX3_pairsFound_36 : decode cX3_pairsFound 36 = .ok (.iadd, 1) := by decide +kernel
theorem dX3_pairsFound_37 : decode cX3_pairsFound 37 = .ok (.if_icmp .ne 6, 3) := by decide +kernel
theorem dX3_pairsFound_40 : decode cX3_pairsFound 40 = .ok (.iinc 3 1, 3) := by decide +kernel
theorem dX3_pairsFound_43 : decode cX3_pairsFound 43 = .ok (.iinc 4 1, 3) := by decide +kernel
theorem dX3_pairsFound_46 : decode cX3_pairsFound 46 = .ok (.goto (-36), 3) := by decide +kernel
theorem dX3_pairsFound_49 : decode cX3_pairsFound 49 = .ok (.iload_n 3, 1) := by decide +kernel
theorem dX3_pairsFound_50 : decode cX3_pairsFound 50 = .ok (.ireturn, 1) := by decide +kernel
theorem dX3_notePlaces_0 : decode cX3_notePlaces 0 = .ok (.iconst 0, 1) := by decide +kernel
theorem dX3_notePlaces_1 : decode cX3_notePlaces 1 = .ok (.istore_n 2, 1) := by decide +kernel
theorem dX3_notePlaces_2 : decode cX3_notePlaces 2 = .ok (.iload_n 2, 1) := by decide +kernel
theorem dX3_notePlaces_3 : decode cX3_notePlaces 3 = .ok (.bipush 52, 2) := by decide +kernel
theorem dX3_notePlaces_5 : decode cX3_notePlaces 5 = .ok (.if_icmp .ge 30, 3) := by decide +kernel
theorem dX3_notePlaces_8 : decode cX3_notePlaces 8 = .ok (.aload_n 1, 1) := by decide +kernel
theorem dX3_notePlaces_9 : decode cX3_notePlaces 9 = .ok (.iload_n 2, 1) := by decide +kernel
theorem dX3_notePlaces_10 : decode cX3_notePlaces 10 = .ok (.iaload, 1) := by decide +kernel
theorem dX3_notePlaces_11 : decode cX3_notePlaces 11 = .ok (.istore_n 3, 1) := by decide +kernel
theorem dX3_notePlaces_12 : decode cX3_notePlaces 12 = .ok (.iload_n 3, 1) := by decide +kernel
theorem dX3_notePlaces_13 : decode cX3_notePlaces 13 = .ok (.ifCond .lt 16, 3) := by decide +kernel
theorem dX3_notePlaces_16 : decode cX3_notePlaces 16 = .ok (.iload_n 3, 1) := by decide +kernel
theorem dX3_notePlaces_17 : decode cX3_notePlaces 17 = .ok (.bipush 52, 2) := by decide +kernel
theorem dX3_notePlaces_19 : decode cX3_notePlaces 19 = .ok (.if_icmp .ge 10, 3) := by decide +kernel
theorem dX3_notePlaces_22 : decode cX3_notePlaces 22 = .ok (.aload_n 0, 1) := by decide +kernel
theorem dX3_notePlaces_23 : decode cX3_notePlaces 23 = .ok (.getfield 21, 3) := by decide +kernel
theorem dX3_notePlaces_26 : decode cX3_notePlaces 26 = .ok (.iload_n 3, 1) := by decide +kernel
theorem dX3_notePlaces_27 : decode cX3_notePlaces 27 = .ok (.iload_n 2, 1) := by decide +kernel
theorem dX3_notePlaces_28 : decode cX3_notePlaces 28 = .ok (.iastore, 1) := by decide +kernel
theorem dX3_notePlaces_29 : decode cX3_notePlaces 29 = .ok (.iinc 2 1, 3) := by decide +kernel
theorem dX3_notePlaces_32 : decode cX3_notePlaces 32 = .ok (.goto (-30), 3) := by decide +kernel
theorem dX3_notePlaces_35 : decode cX3_notePlaces 35 = .ok (.return_, 1) := by decide +kernel
theorem dX3_notedPlace_0 : decode cX3_notedPlace 0 = .ok (.iload_n 1, 1) := by decide +kernel
theorem dX3_notedPlace_1 : decode cX3_notedPlace 1 = .ok (.ifCond .lt 9, 3) := by decide +kernel
theorem dX3_notedPlace_4 : decode cX3_notedPlace 4 = .ok (.iload_n 1, 1) := by decide +kernel
theorem dX3_notedPlace_5 : decode cX3_notedPlace 5 = .ok (.bipush 52, 2) := by decide +kernel
theorem dX3_notedPlace_7 : decode cX3_notedPlace 7 = .ok (.if_icmp .lt 5, 3) := by decide +kernel
theorem dX3_notedPlace_10 : decode cX3_notedPlace 10 = .ok (.iconst (-1), 1) := by decide +kernel
theorem dX3_notedPlace_11 : decode cX3_notedPlace 11 = .ok (.ireturn, 1) := by decide +kernel
theorem dX3_notedPlace_12 : decode cX3_notedPlace 12 = .ok (.aload_n 0, 1) := by decide +kernel
theorem dX3_notedPlace_13 : decode cX3_notedPlace 13 = .ok (.getfield 21, 3) := by decide +kernel
theorem dX3_notedPlace_16 : decode cX3_notedPlace 16 = .ok (.iload_n 1, 1) := by decide +kernel
theorem dX3_notedPlace_17 : decode cX3_notedPlace 17 = .ok (.iaload, 1) := by decide +kernel
theorem dX3_notedPlace_18 : decode cX3_notedPlace 18 = .ok (.ireturn, 1) := by decide +kernel
theorem dX4_init_0 : decode cX4_init 0 = .ok (.aload_n 0, 1) := by decide +kernel
theorem dX4_init_1 : decode cX4_init 1 = .ok (.invokespecial 1, 3) := by decide +kernel
theorem dX4_init_4 : decode cX4_init 4 = .ok (.aload_n 0, 1) := by decide +kernel
theorem dX4_init_5 : decode cX4_init 5 = .ok (.new 7, 3) := by decide +kernel
theorem dX4_init_8 : decode cX4_init 8 = .ok (.dup, 1) := by decide +kernel
theorem dX4_init_9 : decode cX4_init 9 = .ok (.invokespecial 9, 3) := by decide +kernel
theorem dX4_init_12 : decode cX4_init 12 = .ok (.putfield 10, 3) := by decide +kernel
theorem dX4_init_15 : decode cX4_init 15 = .ok (.aload_n 0, 1) := by decide +kernel
theorem dX4_init_16 : decode cX4_init 16 = .ok (.new 16, 3) := by decide +kernel
theorem dX4_init_19 : decode cX4_init 19 = .ok (.dup, 1) := by decide +kernel
theorem dX4_init_20 : decode cX4_init 20 = .ok (.invokespecial 18, 3) := by decide +kernel
theorem dX4_init_23 : decode cX4_init 23 = .ok (.putfield 19, 3) := by decide +kernel
theorem dX4_init_26 : decode cX4_init 26 = .ok (.aload_n 0, 1) := by decide +kernel
theorem dX4_init_27 : decode cX4_init 27 = .ok (.new 23, 3) := by decide +kernel
theorem dX4_init_30 : decode cX4_init 30 = .ok (.dup, 1) := by decide +kernel
theorem dX4_init_31 : decode cX4_init 31 = .ok (.invokespecial 25, 3) := by decide +kernel
theorem dX4_init_34 : decode cX4_init 34 = .ok (.putfield 26, 3) := by decide +kernel
theorem dX4_init_37 : decode cX4_init 37 = .ok (.aload_n 0, 1) := by decide +kernel
theorem dX4_init_38 : decode cX4_init 38 = .ok (.iconst 4, 1) := by decide +kernel
theorem dX4_init_39 : decode cX4_init 39 = .ok (.anewarray 7, 3) := by decide +kernel
theorem dX4_init_42 : decode cX4_init 42 = .ok (.putfield 30, 3) := by decide +kernel
theorem dX4_init_45 : decode cX4_init 45 = .ok (.iconst 0, 1) := by decide +kernel
theorem dX4_init_46 : decode cX4_init 46 = .ok (.istore_n 1, 1) := by decide +kernel
theorem dX4_init_47 : decode cX4_init 47 = .ok (.iload_n 1, 1) := by decide +kernel
theorem dX4_init_48 : decode cX4_init 48 = .ok (.iconst 4, 1) := by decide +kernel
theorem dX4_init_49 : decode cX4_init 49 = .ok (.if_icmp .ge 22, 3) := by decide +kernel
theorem dX4_init_52 : decode cX4_init 52 = .ok (.aload_n 0, 1) := by decide +kernel
theorem dX4_init_53 : decode cX4_init 53 = .ok (.getfield 30, 3) := by decide +kernel
theorem dX4_init_56 : decode cX4_init 56 = .ok (.iload_n 1, 1) := by decide +kernel
theorem dX4_init_57 : decode cX4_init 57 = .ok (.new 7, 3) := by decide +kernel
theorem dX4_init_60 : decode cX4_init 60 = .ok (.dup, 1) := by decide +kernel
theorem dX4_init_61 : decode cX4_init 61 = .ok (.invokespecial 9, 3) := by decide +kernel
theorem dX4_init_64 : decode cX4_init 64 = .ok (.aastore, 1) := by decide +kernel
theorem dX4_init_65 : decode cX4_init 65 = .ok (.iinc 1 1, 3) := by decide +kernel
theorem dX4_init_68 : decode cX4_init 68 = .ok (.goto (-21), 3) := by decide +kernel
theorem dX4_init_71 : decode cX4_init 71 = .ok (.aload_n 0, 1) := by decide +kernel
theorem dX4_init_72 : decode cX4_init 72 = .ok (.iconst 0, 1) := by decide +kernel
theorem dX4_init_73 : decode cX4_init 73 = .ok (.putfield 34, 3) := by decide +kernel
theorem dX4_init_76 : decode cX4_init 76 = .ok (.aload_n 0, 1) := by decide +kernel
theorem dX4_init_77 : decode cX4_init 77 = .ok (.iconst 2, 1) := by decide +kernel
theorem dX4_init_78 : decode cX4_init 78 = .ok (.anewarray 7, 3) := by decide +kernel
theorem dX4_init_81 : decode cX4_init 81 = .ok (.putfield 38, 3) := by decide +kernel
theorem dX4_init_84 : decode cX4_init 84 = .ok (.aload_n 0, 1) := by decide +kernel
theorem dX4_init_85 : decode cX4_init 85 = .ok (.bipush 52, 2) := by decide +kernel
theorem dX4_init_87 : decode cX4_init 87 = .ok (.newarray .int, 2) := by decide +kernel
theorem dX4_init_89 : decode cX4_init 89 = .ok (.putfield 41, 3) := by decide +kernel
theorem dX4_init_92 : decode cX4_init 92 = .ok (.return_, 1) := by decide +kernel
theorem dX4_set_0 : decode cX4_set 0 = .ok (.iload_n 1, 1) := by decide +kernel
theorem dX4_set_1 : decode cX4_set 1 = .ok (.ifCond .lt 8, 3) := by decide +kernel
theorem dX4_set_4 : decode cX4_set 4 = .ok (.iload_n 1, 1) := by decide +kernel
theorem dX4_set_5 : decode cX4_set 5 = .ok (.iconst 2, 1) := by decide +kernel
theorem dX4_set_6 : decode cX4_set 6 = .ok (.if_icmp .lt 6, 3) := by decide +kernel
theorem dX4_set_9 : decode cX4_set 9 = .ok (.bipush (-2), 2) := by decide +kernel
theorem dX4_set_11 : decode cX4_set 11 = .ok (.ireturn, 1) := by decide +kernel
theorem dX4_set_12 : decode cX4_set 12 = .ok (.iload_n 2, 1) := by decide +kernel
theorem dX4_set_13 : decode cX4_set 13 = .ok (.getstatic 45, 3) := by decide +kernel
theorem dX4_set_16 : decode cX4_set 16 = .ok (.iload_n 1, 1) := by decide +kernel
theorem dX4_set_17 : decode cX4_set 17 = .ok (.iaload, 1) := by decide +kernel
theorem dX4_set_18 : decode cX4_set 18 = .ok (.if_icmp .lt 12, 3) := by decide +kernel
theorem dX4_set_21 : decode cX4_set 21 = .ok (.iload_n 2, 1) := by decide +kernel
theorem dX4_set_22 : decode cX4_set 22 = .ok (.getstatic 48, 3) := by decide +kernel
theorem dX4_set_25 : decode cX4_set 25 = .ok (.iload_n 1, 1) := by decide +kernel
theorem dX4_set_26 : decode cX4_set 26 = .ok (.iaload, 1) := by decide +kernel
theorem dX4_set_27 : decode cX4_set 27 = .ok (.if_icmp .le 6, 3) := by decide +kernel
theorem dX4_set_30 : decode cX4_set 30 = .ok (.bipush (-2), 2) := by decide +kernel
theorem dX4_set_32 : decode cX4_set 32 = .ok (.ireturn, 1) := by decide +kernel
theorem dX4_set_33 : decode cX4_set 33 = .ok (.aload_n 0, 1) := by decide +kernel
theorem dX4_set_34 : decode cX4_set 34 = .ok (.invokevirtual 51, 3) := by decide +kernel
theorem dX4_set_37 : decode cX4_set 37 = .ok (.aload_n 0, 1) := by decide +kernel
theorem dX4_set_38 : decode cX4_set 38 = .ok (.getfield 10, 3) := by decide +kernel
theorem dX4_set_41 : decode cX4_set 41 = .ok (.getfield 54, 3) := by decide +kernel
theorem dX4_set_44 : decode cX4_set 44 = .ok (.iload_n 1, 1) := by decide +kernel
theorem dX4_set_45 : decode cX4_set 45 = .ok (.iaload, 1) := by decide +kernel
theorem dX4_set_46 : decode cX4_set 46 = .ok (.istore_n 3, 1) := by decide +kernel
theorem dX4_set_47 : decode cX4_set 47 = .ok (.aload_n 0, 1) := by decide +kernel
theorem dX4_set_48 : decode cX4_set 48 = .ok (.getfield 10, 3) := by decide +kernel
theorem dX4_set_51 : decode cX4_set 51 = .ok (.getfield 54, 3) := by decide +kernel
theorem dX4_set_54 : decode cX4_set 54 = .ok (.iload_n 1, 1) := by decide +kernel
theorem dX4_set_55 : decode cX4_set 55 = .ok (.iload_n 2, 1) := by decide +kernel
theorem dX4_set_56 : decode cX4_set 56 = .ok (.iastore, 1) := by decide +kernel
theorem dX4_set_57 : decode cX4_set 57 = .ok (.iload_n 3, 1) := by decide +kernel
theorem dX4_set_58 : decode cX4_set 58 = .ok (.ireturn, 1) := by decide +kernel
theorem dX4_seed_0 : decode cX4_seed 0 = .ok (.iload_n 1, 1) := by decide +kernel
theorem dX4_seed_1 : decode cX4_seed 1 = .ok (.ifCond .ge 6, 3) := by decide +kernel
theorem dX4_seed_4 : decode cX4_seed 4 = .ok (.bipush (-2), 2) := by decide +kernel
theorem dX4_seed_6 : decode cX4_seed 6 = .ok (.ireturn, 1) := by decide +kernel
theorem dX4_seed_7 : decode cX4_seed 7 = .ok (.aload_n 0, 1) := by decide +kernel
theorem dX4_seed_8 : decode cX4_seed 8 = .ok (.invokevirtual 51, 3) := by decide +kernel
theorem dX4_seed_11 : decode cX4_seed 11 = .ok (.aload_n 0, 1) := by decide +kernel
theorem dX4_seed_12 : decode cX4_seed 12 = .ok (.getfield 10, 3) := by decide +kernel
theorem dX4_seed_15 : decode cX4_seed 15 = .ok (.getfield 57, 3) := by decide +kernel
theorem dX4_seed_18 : decode cX4_seed 18 = .ok (.istore_n 2, 1) := by decide +kernel
theorem dX4_seed_19 : decode cX4_seed 19 = .ok (.aload_n 0, 1) := by decide +kernel
theorem dX4_seed_20 : decode cX4_seed 20 = .ok (.getfield 10, 3) := by decide +kernel
theorem dX4_seed_23 : decode cX4_seed 23 = .ok (.iload_n 1, 1) := by decide +kernel
theorem dX4_seed_24 : decode cX4_seed 24 = .ok (.putfield 57, 3) := by decide +kernel
theorem dX4_seed_27 : decode cX4_seed 27 = .ok (.iload_n 2, 1) := by decide +kernel
theorem dX4_seed_28 : decode cX4_seed 28 = .ok (.ireturn, 1) := by decide +kernel
theorem dX4_bend_0 : decode cX4_bend 0 = .ok (.iload_n 1, 1) := by decide +kernel
theorem dX4_bend_1 : decode cX4_bend 1 = .ok (.ifCond .lt 9, 3) := by decide +kernel
theorem dX4_bend_4 : decode cX4_bend 4 = .ok (.iload_n 1, 1) := by decide +kernel
theorem dX4_bend_5 : decode cX4_bend 5 = .ok (.bipush 52, 2) := by decide +kernel
theorem dX4_bend_7 : decode cX4_bend 7 = .ok (.if_icmp .lt 5, 3) := by decide +kernel
theorem dX4_bend_10 : decode cX4_bend 10 = .ok (.iconst (-1), 1) := by decide +kernel
theorem dX4_bend_11 : decode cX4_bend 11 = .ok (.ireturn, 1) := by decide +kernel
theorem dX4_bend_12 : decode cX4_bend 12 = .ok (.aload_n 0, 1) := by decide +kernel
theorem dX4_bend_13 : decode cX4_bend 13 = .ok (.invokevirtual 51, 3) := by decide +kernel
theorem dX4_bend_16 : decode cX4_bend 16 = .ok (.aload_n 0, 1) := by decide +kernel
theorem dX4_bend_17 : decode cX4_bend 17 = .ok (.getfield 10, 3) := by decide +kernel
theorem dX4_bend_20 : decode cX4_bend 20 = .ok (.iload_n 1, 1) := by decide +kernel
theorem dX4_bend_21 : decode cX4_bend 21 = .ok (.invokevirtual 60, 3) := by decide +kernel
theorem dX4_bend_24 : decode cX4_bend 24 = .ok (.aload_n 0, 1) := by decide +kernel
theorem dX4_bend_25 : decode cX4_bend 25 = .ok (.getfield 10, 3) := by decide +kernel
theorem dX4_bend_28 : decode cX4_bend 28 = .ok (.invokevirtual 64, 3) := by decide +kernel
theorem dX4_bend_31 : decode cX4_bend 31 = .ok (.ireturn, 1) := by decide +kernel
theorem dX4_shuffle_0 : decode cX4_shuffle 0 = .ok (.aload_n 0, 1) := by decide +kernel
theorem dX4_shuffle_1 : decode cX4_shuffle 1 = .ok (.invokevirtual 51, 3) := by decide +kernel
theorem dX4_shuffle_4 : decode cX4_shuffle 4 = .ok (.aload_n 0, 1) := by decide +kernel
theorem dX4_shuffle_5 : decode cX4_shuffle 5 = .ok (.getfield 19, 3) := by decide +kernel
theorem dX4_shuffle_8 : decode cX4_shuffle 8 = .ok (.aload_n 0, 1) := by decide +kernel
theorem dX4_shuffle_9 : decode cX4_shuffle 9 = .ok (.getfield 10, 3) := by decide +kernel
theorem dX4_shuffle_12 : decode cX4_shuffle 12 = .ok (.invokevirtual 78, 3) := by decide +kernel
theorem dX4_shuffle_15 : decode cX4_shuffle 15 = .ok (.aload_n 0, 1) := by decide +kernel
theorem dX4_shuffle_16 : decode cX4_shuffle 16 = .ok (.getfield 19, 3) := by decide +kernel
theorem dX4_shuffle_19 : decode cX4_shuffle 19 = .ok (.aload_n 0, 1) := by decide +kernel
theorem dX4_shuffle_20 : decode cX4_shuffle 20 = .ok (.getfield 10, 3) := by decide +kernel
theorem dX4_shuffle_23 : decode cX4_shuffle 23 = .ok (.getfield 54, 3) := by decide +kernel
theorem dX4_shuffle_26 : decode cX4_shuffle 26 = .ok (.iconst 1, 1) := by decide +kernel
theorem dX4_shuffle_27 : decode cX4_shuffle 27 = .ok (.iaload, 1) := by decide +kernel
theorem dX4_shuffle_28 : decode cX4_shuffle 28 = .ok (.invokevirtual 82, 3) := by decide +kernel
theorem dX4_shuffle_31 : decode cX4_shuffle 31 = .ok (.aload_n 0, 1) := by decide +kernel
theorem dX4_shuffle_32 : decode cX4_shuffle 32 = .ok (.getfield 19, 3) := by decide +kernel
theorem dX4_shuffle_35 : decode cX4_shuffle 35 = .ok (.iconst 0, 1) := by decide +kernel
theorem dX4_shuffle_36 : decode cX4_shuffle 36 = .ok (.invokevirtual 85, 3) := by decide +kernel
theorem dX4_shuffle_39 : decode cX4_shuffle 39 = .ok (.istore_n 1, 1) := by decide +kernel
theorem dX4_shuffle_40 : decode cX4_shuffle 40 = .ok (.aload_n 0, 1) := by decide +kernel
theorem dX4_shuffle_41 : decode cX4_shuffle 41 = .ok (.getfield 19, 3) := by decide +kernel
theorem dX4_shuffle_44 : decode cX4_shuffle 44 = .ok (.getfield 88, 3) := by decide +kernel
theorem dX4_shuffle_47 : decode cX4_shuffle 47 = .ok (.iconst 0, 1) := by decide +kernel
theorem dX4_shuffle_48 : decode cX4_shuffle 48 = .ok (.aload_n 0, 1) := by decide +kernel
theorem dX4_shuffle_49 : decode cX4_shuffle 49 = .ok (.getfield 10, 3) := by decide +kernel
theorem dX4_shuffle_52 : decode cX4_shuffle 52 = .ok (.getfield 91, 3) := by decide +kernel
theorem dX4_shuffle_55 : decode cX4_shuffle 55 = .ok (.iconst 0, 1) := by decide +kernel
theorem dX4_shuffle_56 : decode cX4_shuffle 56 = .ok (.bipush 52, 2) := by decide +kernel
theorem dX4_shuffle_58 : decode cX4_shuffle 58 = .ok (.invokestatic 92, 3) := by decide +kernel
theorem dX4_shuffle_61 : decode cX4_shuffle 61 = .ok (.aload_n 0, 1) := by decide +kernel
theorem dX4_shuffle_62 : decode cX4_shuffle 62 = .ok (.getfield 10, 3) := by decide +kernel
theorem dX4_shuffle_65 : decode cX4_shuffle 65 = .ok (.aload_n 0, 1) := by decide +kernel
theorem dX4_shuffle_66 : decode cX4_shuffle 66 = .ok (.getfield 19, 3) := by decide +kernel
theorem dX4_shuffle_69 : decode cX4_shuffle 69 = .ok (.getfield 98, 3) := by decide +kernel
theorem dX4_shuffle_72 : decode cX4_shuffle 72 = .ok (.putfield 57, 3) := by decide +kernel
theorem dX4_shuffle_75 : decode cX4_shuffle 75 = .ok (.aload_n 0, 1) := by decide +kernel
theorem dX4_shuffle_76 : decode cX4_shuffle 76 = .ok (.getfield 10, 3) := by decide +kernel
theorem dX4_shuffle_79 : decode cX4_shuffle 79 = .ok (.iload_n 1, 1) := by decide +kernel
theorem dX4_shuffle_80 : decode cX4_shuffle 80 = .ok (.invokevirtual 99, 3) := by decide +kernel
theorem dX4_shuffle_83 : decode cX4_shuffle 83 = .ok (.iload_n 1, 1) := by decide +kernel
theorem dX4_shuffle_84 : decode cX4_shuffle 84 = .ok (.ireturn, 1) := by decide +kernel
theorem dX4_cut_0 : decode cX4_cut 0 = .ok (.iload_n 1, 1) := by decide +kernel
theorem dX4_cut_1 : decode cX4_cut 1 = .ok (.iconst 1, 1) := by decide +kernel
theorem dX4_cut_2 : decode cX4_cut 2 = .ok (.if_icmp .lt 9, 3) := by decide +kernel
theorem dX4_cut_5 : decode cX4_cut 5 = .ok (.iload_n 1, 1) := by decide +kernel
theorem dX4_cut_6 : decode cX4_cut 6 = .ok (.bipush 52, 2) := by decide +kernel
theorem dX4_cut_8 : decode cX4_cut 8 = .ok (.if_icmp .lt 6, 3) := by decide +kernel
theorem dX4_cut_11 : decode cX4_cut 11 = .ok (.bipush (-2), 2) := by decide +kernel
theorem dX4_cut_13 : decode cX4_cut 13 = .ok (.ireturn, 1) := by decide +kernel
theorem dX4_cut_14 : decode cX4_cut 14 = .ok (.aload_n 0, 1) := by decide +kernel
theorem dX4_cut_15 : decode cX4_cut 15 = .ok (.invokevirtual 51, 3) := by decide +kernel
theorem dX4_cut_18 : decode cX4_cut 18 = .ok (.aload_n 0, 1) := by decide +kernel
theorem dX4_cut_19 : decode cX4_cut 19 = .ok (.getfield 10, 3) := by decide +kernel
theorem dX4_cut_22 : decode cX4_cut 22 = .ok (.getfield 91, 3) := by decide +kernel
theorem dX4_cut_25 : decode cX4_cut 25 = .ok (.iconst 0, 1) := by decide +kernel
theorem dX4_cut_26 : decode cX4_cut 26 = .ok (.aload_n 0, 1) := by decide +kernel
theorem dX4_cut_27 : decode cX4_cut 27 = .ok (.getfield 41, 3) := by decide +kernel
theorem dX4_cut_30 : decode cX4_cut 30 = .ok (.iconst 0, 1) := by decide +kernel
theorem dX4_cut_31 : decode cX4_cut 31 = .ok (.bipush 52, 2) := by decide +kernel
theorem dX4_cut_33 : decode cX4_cut 33 = .ok (.invokestatic 92, 3) := by decide +kernel
theorem dX4_cut_36 : decode cX4_cut 36 = .ok (.aload_n 0, 1) := by decide +kernel
theorem dX4_cut_37 : decode cX4_cut 37 = .ok (.getfield 41, 3) := by decide +kernel
theorem dX4_cut_40 : decode cX4_cut 40 = .ok (.iload_n 1, 1) := by decide +kernel
theorem dX4_cut_41 : decode cX4_cut 41 = .ok (.aload_n 0, 1) := by decide +kernel
theorem dX4_cut_42 : decode cX4_cut 42 = .ok (.getfield 10, 3) := by decide +kernel
theorem dX4_cut_45 : decode cX4_cut 45 = .ok (.getfield 91, 3) := by decide +kernel
theorem dX4_cut_48 : decode cX4_cut 48 = .ok (.iconst 0, 1) := by decide +kernel
theorem dX4_cut_49 : decode cX4_cut 49 = .ok (.bipush 52, 2) := by decide +kernel
theorem dX4_cut_51 : decode cX4_cut 51 = .ok (.iload_n 1, 1) := by decide +kernel
theorem dX4_cut_52 : decode cX4_cut 52 = .ok (.isub, 1) := by decide +kernel
theorem dX4_cut_53 : decode cX4_cut 53 = .ok (.invokestatic 92, 3) := by decide +kernel
theorem dX4_cut_56 : decode cX4_cut 56 = .ok (.aload_n 0, 1) := by decide +kernel
theorem dX4_cut_57 : decode cX4_cut 57 = .ok (.getfield 41, 3) := by decide +kernel
theorem dX4_cut_60 : decode cX4_cut 60 = .ok (.iconst 0, 1) := by decide +kernel
theorem dX4_cut_61 : decode cX4_cut 61 = .ok (.aload_n 0, 1) := by decide +kernel
theorem dX4_cut_62 : decode cX4_cut 62 = .ok (.getfield 10, 3) := by decide +kernel
theorem dX4_cut_65 : decode cX4_cut 65 = .ok (.getfield 91, 3) := by decide +kernel
theorem dX4_cut_68 : decode cX4_cut 68 = .ok (.bipush 52, 2) := by decide +kernel
theorem dX4_cut_70 : decode cX4_cut 70 = .ok (.iload_n 1, 1) := by decide +kernel
theorem dX4_cut_71 : decode cX4_cut 71 = .ok (.isub, 1) := by decide +kernel
theorem dX4_cut_72 : decode cX4_cut 72 = .ok (.iload_n 1, 1) := by decide +kernel
theorem dX4_cut_73 : decode cX4_cut 73 = .ok (.invokestatic 92, 3) := by decide +kernel
theorem dX4_cut_76 : decode cX4_cut 76 = .ok (.aload_n 0, 1) := by decide +kernel
theorem dX4_cut_77 : decode cX4_cut 77 = .ok (.getfield 10, 3) := by decide +kernel
theorem dX4_cut_80 : decode cX4_cut 80 = .ok (.getfield 91, 3) := by decide +kernel
theorem dX4_cut_83 : decode cX4_cut 83 = .ok (.iconst 0, 1) := by decide +kernel
theorem dX4_cut_84 : decode cX4_cut 84 = .ok (.iaload, 1) := by decide +kernel
theorem dX4_cut_85 : decode cX4_cut 85 = .ok (.ireturn, 1) := by decide +kernel
theorem dX4_sort_0 : decode cX4_sort 0 = .ok (.aload_n 0, 1) := by decide +kernel
theorem dX4_sort_1 : decode cX4_sort 1 = .ok (.invokevirtual 51, 3) := by decide +kernel
theorem dX4_sort_4 : decode cX4_sort 4 = .ok (.aload_n 0, 1) := by decide +kernel
theorem dX4_sort_5 : decode cX4_sort 5 = .ok (.getfield 10, 3) := by decide +kernel
theorem dX4_sort_8 : decode cX4_sort 8 = .ok (.iconst 0, 1) := by decide +kernel
theorem dX4_sort_9 : decode cX4_sort 9 = .ok (.putfield 102, 3) := by decide +kernel
theorem dX4_sort_12 : decode cX4_sort 12 = .ok (.aload_n 0, 1) := by decide +kernel
theorem dX4_sort_13 : decode cX4_sort 13 = .ok (.getfield 10, 3) := by decide +kernel
theorem dX4_sort_16 : decode cX4_sort 16 = .ok (.invokevirtual 106, 3) := by decide +kernel
theorem dX4_sort_19 : decode cX4_sort 19 = .ok (.ireturn, 1) := by decide +kernel
theorem dX4_deal_0 : decode cX4_deal 0 = .ok (.aload_n 0, 1) := by decide +kernel
theorem dX4_deal_1 : decode cX4_deal 1 = .ok (.getfield 10, 3) := by decide +kernel
theorem dX4_deal_4 : decode cX4_deal 4 = .ok (.iload_n 1, 1) := by decide +kernel
theorem dX4_deal_5 : decode cX4_deal 5 = .ok (.invokevirtual 109, 3) := by decide +kernel
theorem dX4_deal_8 : decode cX4_deal 8 = .ok (.astore_n 2, 1) := by decide +kernel
theorem dX4_deal_9 : decode cX4_deal 9 = .ok (.aload_n 2, 1) := by decide +kernel
theorem dX4_deal_10 : decode cX4_deal 10 = .ok (.ifnonnull 5, 3) := by decide +kernel
theorem dX4_deal_13 : decode cX4_deal 13 = .ok (.iconst (-1), 1) := by decide +kernel
theorem dX4_deal_14 : decode cX4_deal 14 = .ok (.ireturn, 1) := by decide +kernel
theorem dX4_deal_15 : decode cX4_deal 15 = .ok (.aload_n 2, 1) := by decide +kernel
theorem dX4_deal_16 : decode cX4_deal 16 = .ok (.getfield 113, 3) := by decide +kernel
theorem dX4_deal_19 : decode cX4_deal 19 = .ok (.ifCond .ne 13, 3) := by decide +kernel
theorem dX4_deal_22 : decode cX4_deal 22 = .ok (.aload_n 0, 1) := by decide +kernel
theorem dX4_deal_23 : decode cX4_deal 23 = .ok (.getfield 10, 3) := by decide +kernel
theorem dX4_deal_26 : decode cX4_deal 26 = .ok (.getfield 102, 3) := by decide +kernel
theorem dX4_deal_29 : decode cX4_deal 29 = .ok (.ifCond .ne 6, 3) := by decide +kernel
theorem dX4_deal_32 : decode cX4_deal 32 = .ok (.bipush (-5), 2) := by decide +kernel
theorem dX4_deal_34 : decode cX4_deal 34 = .ok (.ireturn, 1) := by decide +kernel
theorem dX4_deal_35 : decode cX4_deal 35 = .ok (.aload_n 0, 1) := by decide +kernel
theorem dX4_deal_36 : decode cX4_deal 36 = .ok (.invokevirtual 51, 3) := by decide +kernel
theorem dX4_deal_39 : decode cX4_deal 39 = .ok (.aload_n 2, 1) := by decide +kernel
theorem dX4_deal_40 : decode cX4_deal 40 = .ok (.aload_n 0, 1) := by decide +kernel
theorem dX4_deal_41 : decode cX4_deal 41 = .ok (.getfield 10, 3) := by decide +kernel
theorem dX4_deal_44 : decode cX4_deal 44 = .ok (.getfield 91, 3) := by decide +kernel
theorem dX4_deal_47 : decode cX4_deal 47 = .ok (.invokevirtual 118, 3) := by decide +kernel
theorem dX4_deal_50 : decode cX4_deal 50 = .ok (.aload_n 0, 1) := by decide +kernel
theorem dX4_deal_51 : decode cX4_deal 51 = .ok (.getfield 10, 3) := by decide +kernel
theorem dX4_deal_54 : decode cX4_deal 54 = .ok (.iconst 0, 1) := by decide +kernel
theorem dX4_deal_55 : decode cX4_deal 55 = .ok (.putfield 102, 3) := by decide +kernel
theorem dX4_deal_58 : decode cX4_deal 58 = .ok (.aload_n 0, 1) := by decide +kernel
theorem dX4_deal_59 : decode cX4_deal 59 = .ok (.getfield 10, 3) := by decide +kernel
theorem dX4_deal_62 : decode cX4_deal 62 = .ok (.dup, 1) := by decide +kernel
theorem dX4_deal_63 : decode cX4_deal 63 = .ok (.getfield 122, 3) := by decide +kernel
theorem dX4_deal_66 : decode cX4_deal 66 = .ok (.iconst 1, 1) := by decide +kernel
theorem dX4_deal_67 : decode cX4_deal 67 = .ok (.iadd, 1) := by decide +kernel
theorem dX4_deal_68 : decode cX4_deal 68 = .ok (.putfield 122, 3) := by decide +kernel
theorem dX4_deal_71 : decode cX4_deal 71 = .ok (.aload_n 2, 1) := by decide +kernel
theorem dX4_deal_72 : decode cX4_deal 72 = .ok (.iconst 0, 1) := by decide +kernel
theorem dX4_deal_73 : decode cX4_deal 73 = .ok (.invokevirtual 125, 3) := by decide +kernel
theorem dX4_deal_76 : decode cX4_deal 76 = .ok (.ireturn, 1) := by decide +kernel
theorem dX4_seal_0 : decode cX4_seal 0 = .ok (.aload_n 0, 1) := by decide +kernel
theorem dX4_seal_1 : decode cX4_seal 1 = .ok (.getfield 10, 3) := by decide +kernel
theorem dX4_seal_4 : decode cX4_seal 4 = .ok (.iload_n 1, 1) := by decide +kernel
theorem dX4_seal_5 : decode cX4_seal 5 = .ok (.invokevirtual 109, 3) := by decide +kernel
theorem dX4_seal_8 : decode cX4_seal 8 = .ok (.astore_n 2, 1) := by decide +kernel
theorem dX4_seal_9 : decode cX4_seal 9 = .ok (.aload_n 2, 1) := by decide +kernel
theorem dX4_seal_10 : decode cX4_seal 10 = .ok (.ifnonnull 5, 3) := by decide +kernel
theorem dX4_seal_13 : decode cX4_seal 13 = .ok (.iconst (-1), 1) := by decide +kernel
theorem dX4_seal_14 : decode cX4_seal 14 = .ok (.ireturn, 1) := by decide +kernel
theorem dX4_seal_15 : decode cX4_seal 15 = .ok (.aload_n 2, 1) := by decide +kernel
theorem dX4_seal_16 : decode cX4_seal 16 = .ok (.getfield 128, 3) := by decide +kernel
theorem dX4_seal_19 : decode cX4_seal 19 = .ok (.ifCond .eq 10, 3) := by decide +kernel
theorem dX4_seal_22 : decode cX4_seal 22 = .ok (.aload_n 2, 1) := by decide +kernel
theorem dX4_seal_23 : decode cX4_seal 23 = .ok (.getfield 113, 3) := by decide +kernel
theorem dX4_seal_26 : decode cX4_seal 26 = .ok (.ifCond .eq 6, 3) := by decide +kernel
theorem dX4_seal_29 : decode cX4_seal 29 = .ok (.bipush (-5), 2) := by decide +kernel
theorem dX4_seal_31 : decode cX4_seal 31 = .ok (.ireturn, 1) := by decide +kernel
theorem dX4_seal_32 : decode cX4_seal 32 = .ok (.aload_n 0, 1) := by decide +kernel
theorem dX4_seal_33 : decode cX4_seal 33 = .ok (.invokevirtual 51, 3) := by decide +kernel
theorem dX4_seal_36 : decode cX4_seal 36 = .ok (.aload_n 2, 1) := by decide +kernel
theorem dX4_seal_37 : decode cX4_seal 37 = .ok (.iconst 1, 1) := by decide +kernel
theorem dX4_seal_38 : decode cX4_seal 38 = .ok (.putfield 113, 3) := by decide +kernel
theorem dX4_seal_41 : decode cX4_seal 41 = .ok (.aload_n 0, 1) := by decide +kernel
theorem dX4_seal_42 : decode cX4_seal 42 = .ok (.getfield 10, 3) := by decide +kernel
theorem dX4_seal_45 : decode cX4_seal 45 = .ok (.invokevirtual 131, 3) := by decide +kernel
theorem dX4_seal_48 : decode cX4_seal 48 = .ok (.ireturn, 1) := by decide +kernel
theorem dX4_open_0 : decode cX4_open 0 = .ok (.aload_n 0, 1) := by decide +kernel
theorem dX4_open_1 : decode cX4_open 1 = .ok (.getfield 10, 3) := by decide +kernel
theorem dX4_open_4 : decode cX4_open 4 = .ok (.iload_n 1, 1) := by decide +kernel
theorem dX4_open_5 : decode cX4_open 5 = .ok (.invokevirtual 109, 3) := by decide +kernel
theorem dX4_open_8 : decode cX4_open 8 = .ok (.astore_n 2, 1) := by decide +kernel
theorem dX4_open_9 : decode cX4_open 9 = .ok (.aload_n 2, 1) := by decide +kernel
theorem dX4_open_10 : decode cX4_open 10 = .ok (.ifnonnull 5, 3) := by decide +kernel
theorem dX4_open_13 : decode cX4_open 13 = .ok (.iconst (-1), 1) := by decide +kernel
theorem dX4_open_14 : decode cX4_open 14 = .ok (.ireturn, 1) := by decide +kernel
theorem dX4_open_15 : decode cX4_open 15 = .ok (.aload_n 2, 1) := by decide +kernel
theorem dX4_open_16 : decode cX4_open 16 = .ok (.getfield 113, 3) := by decide +kernel
theorem dX4_open_19 : decode cX4_open 19 = .ok (.ifCond .ne 6, 3) := by decide +kernel
theorem dX4_open_22 : decode cX4_open 22 = .ok (.bipush (-5), 2) := by decide +kernel
theorem dX4_open_24 : decode cX4_open 24 = .ok (.ireturn, 1) := by decide +kernel
theorem dX4_open_25 : decode cX4_open 25 = .ok (.aload_n 0, 1) := by decide +kernel
theorem dX4_open_26 : decode cX4_open 26 = .ok (.invokevirtual 51, 3) := by decide +kernel
theorem dX4_open_29 : decode cX4_open 29 = .ok (.aload_n 2, 1) := by decide +kernel
theorem dX4_open_30 : decode cX4_open 30 = .ok (.iconst 0, 1) := by decide +kernel
theorem dX4_open_31 : decode cX4_open 31 = .ok (.putfield 113, 3) := by decide +kernel
theorem dX4_open_34 : decode cX4_open 34 = .ok (.aload_n 2, 1) := by decide +kernel
theorem dX4_open_35 : decode cX4_open 35 = .ok (.dup, 1) := by decide +kernel
theorem dX4_open_36 : decode cX4_open 36 = .ok (.getfield 134, 3) := by decide +kernel
theorem dX4_open_39 : decode cX4_open 39 = .ok (.iconst 1, 1) := by decide +kernel
theorem dX4_open_40 : decode cX4_open 40 = .ok (.iadd, 1) := by decide +kernel
theorem dX4_open_41 : decode cX4_open 41 = .ok (.putfield 134, 3) := by decide +kernel
theorem dX4_open_44 : decode cX4_open 44 = .ok (.aload_n 0, 1) := by decide +kernel
theorem dX4_open_45 : decode cX4_open 45 = .ok (.getfield 10, 3) := by decide +kernel
theorem dX4_open_48 : decode cX4_open 48 = .ok (.dup, 1) := by decide +kernel
theorem dX4_open_49 : decode cX4_open 49 = .ok (.getfield 137, 3) := by decide +kernel
theorem dX4_open_52 : decode cX4_open 52 = .ok (.iconst 1, 1) := by decide +kernel
theorem dX4_open_53 : decode cX4_open 53 = .ok (.iadd, 1) := by decide +kernel
theorem dX4_open_54 : decode cX4_open 54 = .ok (.putfield 137, 3) := by decide +kernel
theorem dX4_open_57 : decode cX4_open 57 = .ok (.aload_n 2, 1) := by decide +kernel
theorem dX4_open_58 : decode cX4_open 58 = .ok (.getfield 134, 3) := by decide +kernel
theorem dX4_open_61 : decode cX4_open 61 = .ok (.ireturn, 1) := by decide +kernel
theorem dX4_card_0 : decode cX4_card 0 = .ok (.iload_n 1, 1) := by decide +kernel
theorem dX4_card_1 : decode cX4_card 1 = .ok (.ifCond .lt 9, 3) := by decide +kernel
theorem dX4_card_4 : decode cX4_card 4 = .ok (.iload_n 1, 1) := by decide +kernel
theorem dX4_card_5 : decode cX4_card 5 = .ok (.bipush 52, 2) := by decide +kernel
theorem dX4_card_7 : decode cX4_card 7 = .ok (.if_icmp .lt 5, 3) := by decide +kernel
theorem dX4_card_10 : decode cX4_card 10 = .ok (.iconst (-1), 1) := by decide +kernel
theorem dX4_card_11 : decode cX4_card 11 = .ok (.ireturn, 1) := by decide +kernel
theorem dX4_card_12 : decode cX4_card 12 = .ok (.aload_n 0, 1) := by decide +kernel
theorem dX4_card_13 : decode cX4_card 13 = .ok (.getfield 10, 3) := by decide +kernel
theorem dX4_card_16 : decode cX4_card 16 = .ok (.getfield 91, 3) := by decide +kernel
theorem dX4_card_19 : decode cX4_card 19 = .ok (.iload_n 1, 1) := by decide +kernel
theorem dX4_card_20 : decode cX4_card 20 = .ok (.iaload, 1) := by decide +kernel
theorem dX4_card_21 : decode cX4_card 21 = .ok (.ireturn, 1) := by decide +kernel
theorem dX4_placeOf_0 : decode cX4_placeOf 0 = .ok (.iconst 0, 1) := by decide +kernel
theorem dX4_placeOf_1 : decode cX4_placeOf 1 = .ok (.istore_n 2, 1) := by decide +kernel
theorem dX4_placeOf_2 : decode cX4_placeOf 2 = .ok (.iload_n 2, 1) := by decide +kernel
theorem dX4_placeOf_3 : decode cX4_placeOf 3 = .ok (.bipush 52, 2) := by decide +kernel
theorem dX4_placeOf_5 : decode cX4_placeOf 5 = .ok (.if_icmp .ge 24, 3) := by decide +kernel
theorem dX4_placeOf_8 : decode cX4_placeOf 8 = .ok (.aload_n 0, 1) := by decide +kernel
theorem dX4_placeOf_9 : decode cX4_placeOf 9 = .ok (.getfield 10, 3) := by decide +kernel
theorem dX4_placeOf_12 : decode cX4_placeOf 12 = .ok (.getfield 91, 3) := by decide +kernel
theorem dX4_placeOf_15 : decode cX4_placeOf 15 = .ok (.iload_n 2, 1) := by decide +kernel
theorem dX4_placeOf_16 : decode cX4_placeOf 16 = .ok (.iaload, 1) := by decide +kernel
theorem dX4_placeOf_17 : decode cX4_placeOf 17 = .ok (.iload_n 1, 1) := by decide +kernel
theorem dX4_placeOf_18 : decode cX4_placeOf 18 = .ok (.if_icmp .ne 5, 3) := by decide +kernel
theorem dX4_placeOf_21 : decode cX4_placeOf 21 = .ok (.iload_n 2, 1) := by decide +kernel
theorem dX4_placeOf_22 : decode cX4_placeOf 22 = .ok (.ireturn, 1) := by decide +kernel
theorem dX4_placeOf_23 : decode cX4_placeOf 23 = .ok (.iinc 2 1, 3) := by decide +kernel
theorem dX4_placeOf_26 : decode cX4_placeOf 26 = .ok (.goto (-24), 3) := by decide +kernel
theorem dX4_placeOf_29 : decode cX4_placeOf 29 = .ok (.iconst (-1), 1) := by decide +kernel
theorem dX4_placeOf_30 : decode cX4_placeOf 30 = .ok (.ireturn, 1) := by decide +kernel
theorem dX4_holder_0 : decode cX4_holder 0 = .ok (.aload_n 0, 1) := by decide +kernel
theorem dX4_holder_1 : decode cX4_holder 1 = .ok (.getfield 10, 3) := by decide +kernel
theorem dX4_holder_4 : decode cX4_holder 4 = .ok (.iload_n 1, 1) := by decide +kernel
theorem dX4_holder_5 : decode cX4_holder 5 = .ok (.invokevirtual 109, 3) := by decide +kernel
theorem dX4_holder_8 : decode cX4_holder 8 = .ok (.astore_n 3, 1) := by decide +kernel
theorem dX4_holder_9 : decode cX4_holder 9 = .ok (.aload_n 3, 1) := by decide +kernel
theorem dX4_holder_10 : decode cX4_holder 10 = .ok (.ifnull 13, 3) := by decide +kernel
theorem dX4_holder_13 : decode cX4_holder 13 = .ok (.iload_n 2, 1) := by decide +kernel
theorem dX4_holder_14 : decode cX4_holder 14 = .ok (.ifCond .lt 9, 3) := by decide +kernel
theorem dX4_holder_17 : decode cX4_holder 17 = .ok (.iload_n 2, 1) := by decide +kernel
theorem dX4_holder_18 : decode cX4_holder 18 = .ok (.bipush 52, 2) := by decide +kernel
theorem dX4_holder_20 : decode cX4_holder 20 = .ok (.if_icmp .lt 5, 3) := by decide +kernel
theorem dX4_holder_23 : decode cX4_holder 23 = .ok (.iconst (-1), 1) := by decide +kernel
theorem dX4_holder_24 : decode cX4_holder 24 = .ok (.ireturn, 1) := by decide +kernel
theorem dX4_holder_25 : decode cX4_holder 25 = .ok (.aload_n 3, 1) := by decide +kernel
theorem dX4_holder_26 : decode cX4_holder 26 = .ok (.getfield 128, 3) := by decide +kernel
theorem dX4_holder_29 : decode cX4_holder 29 = .ok (.ifCond .ne 6, 3) := by decide +kernel
theorem dX4_holder_32 : decode cX4_holder 32 = .ok (.bipush (-6), 2) := by decide +kernel
theorem dX4_holder_34 : decode cX4_holder 34 = .ok (.ireturn, 1) := by decide +kernel
theorem dX4_holder_35 : decode cX4_holder 35 = .ok (.aload_n 3, 1) := by decide +kernel
theorem dX4_holder_36 : decode cX4_holder 36 = .ok (.getfield 138, 3) := by decide +kernel
theorem dX4_holder_39 : decode cX4_holder 39 = .ok (.iload_n 2, 1) := by decide +kernel
theorem dX4_holder_40 : decode cX4_holder 40 = .ok (.iaload, 1) := by decide +kernel
theorem dX4_holder_41 : decode cX4_holder 41 = .ok (.ireturn, 1) := by decide +kernel
theorem dX4_hand_0 : decode cX4_hand 0 = .ok (.aload_n 0, 1) := by decide +kernel
theorem dX4_hand_1 : decode cX4_hand 1 = .ok (.getfield 10, 3) := by decide +kernel
theorem dX4_hand_4 : decode cX4_hand 4 = .ok (.iload_n 1, 1) := by decide +kernel
theorem dX4_hand_5 : decode cX4_hand 5 = .ok (.invokevirtual 109, 3) := by decide +kernel
theorem dX4_hand_8 : decode cX4_hand 8 = .ok (.astore 4, 2) := by decide +kernel
theorem dX4_hand_10 : decode cX4_hand 10 = .ok (.aload 4, 2) := by decide +kernel
theorem dX4_hand_12 : decode cX4_hand 12 = .ok (.ifnull 12, 3) := by decide +kernel
theorem dX4_hand_15 : decode cX4_hand 15 = .ok (.iload_n 2, 1) := by decide +kernel
theorem dX4_hand_16 : decode cX4_hand 16 = .ok (.ifCond .lt 8, 3) := by decide +kernel
theorem dX4_hand_19 : decode cX4_hand 19 = .ok (.iload_n 2, 1) := by decide +kernel
theorem dX4_hand_20 : decode cX4_hand 20 = .ok (.iconst 4, 1) := by decide +kernel
theorem dX4_hand_21 : decode cX4_hand 21 = .ok (.if_icmp .lt 5, 3) := by decide +kernel
theorem dX4_hand_24 : decode cX4_hand 24 = .ok (.iconst (-1), 1) := by decide +kernel
theorem dX4_hand_25 : decode cX4_hand 25 = .ok (.ireturn, 1) := by decide +kernel
theorem dX4_hand_26 : decode cX4_hand 26 = .ok (.iload_n 3, 1) := by decide +kernel
theorem dX4_hand_27 : decode cX4_hand 27 = .ok (.ifCond .lt 9, 3) := by decide +kernel
theorem dX4_hand_30 : decode cX4_hand 30 = .ok (.iload_n 3, 1) := by decide +kernel
theorem dX4_hand_31 : decode cX4_hand 31 = .ok (.bipush 6, 2) := by decide +kernel
theorem dX4_hand_33 : decode cX4_hand 33 = .ok (.if_icmp .le 6, 3) := by decide +kernel
theorem dX4_hand_36 : decode cX4_hand 36 = .ok (.bipush (-2), 2) := by decide +kernel
theorem dX4_hand_38 : decode cX4_hand 38 = .ok (.ireturn, 1) := by decide +kernel
theorem dX4_hand_39 : decode cX4_hand 39 = .ok (.aload 4, 2) := by decide +kernel
theorem dX4_hand_41 : decode cX4_hand 41 = .ok (.getfield 128, 3) := by decide +kernel
theorem dX4_hand_44 : decode cX4_hand 44 = .ok (.ifCond .ne 6, 3) := by decide +kernel
theorem dX4_hand_47 : decode cX4_hand 47 = .ok (.bipush (-6), 2) := by decide +kernel
theorem dX4_hand_49 : decode cX4_hand 49 = .ok (.ireturn, 1) := by decide +kernel
theorem dX4_hand_50 : decode cX4_hand 50 = .ok (.iload_n 3, 1) := by decide +kernel
theorem dX4_hand_51 : decode cX4_hand 51 = .ok (.tableswitch 54 4 6 #[25, 32, 47], 25) := by decide +kernel
theorem dX4_hand_76 : decode cX4_hand 76 = .ok (.aload 4, 2) := by decide +kernel
theorem dX4_hand_78 : decode cX4_hand 78 = .ok (.iload_n 2, 1) := by decide +kernel
theorem dX4_hand_79 : decode cX4_hand 79 = .ok (.invokevirtual 125, 3) := by decide +kernel
theorem dX4_hand_82 : decode cX4_hand 82 = .ok (.ireturn, 1) := by decide +kernel
theorem dX4_hand_83 : decode cX4_hand 83 = .ok (.aload 4, 2) := by decide +kernel
theorem dX4_hand_85 : decode cX4_hand 85 = .ok (.iload_n 2, 1) := by decide +kernel
theorem dX4_hand_86 : decode cX4_hand 86 = .ok (.invokevirtual 141, 3) := by decide +kernel
theorem dX4_hand_89 : decode cX4_hand 89 = .ok (.ifCond .eq 7, 3) := by decide +kernel
theorem dX4_hand_92 : decode cX4_hand 92 = .ok (.iconst 1, 1) := by decide +kernel
theorem dX4_hand_93 : decode cX4_hand 93 = .ok (.goto 4, 3) := by decide +kernel
theorem dX4_hand_96 : decode cX4_hand 96 = .ok (.iconst 0, 1) := by decide +kernel
theorem dX4_hand_97 : decode cX4_hand 97 = .ok (.ireturn, 1) := by decide +kernel
theorem dX4_hand_98 : decode cX4_hand 98 = .ok (.aload 4, 2) := by decide +kernel
theorem dX4_hand_100 : decode cX4_hand 100 = .ok (.iload_n 2, 1) := by decide +kernel
theorem dX4_hand_101 : decode cX4_hand 101 = .ok (.invokevirtual 145, 3) := by decide +kernel
theorem dX4_hand_104 : decode cX4_hand 104 = .ok (.ireturn, 1) := by decide +kernel
theorem dX4_hand_105 : decode cX4_hand 105 = .ok (.aload 4, 2) := by decide +kernel
theorem dX4_hand_107 : decode cX4_hand 107 = .ok (.iload_n 2, 1) := by decide +kernel
theorem dX4_hand_108 : decode cX4_hand 108 = .ok (.iload_n 3, 1) := by decide +kernel
theorem dX4_hand_109 : decode cX4_hand 109 = .ok (.invokevirtual 148, 3) := by decide +kernel
theorem dX4_hand_112 : decode cX4_hand 112 = .ok (.ireturn, 1) := by decide +kernel
theorem dX4_board_0 : decode cX4_board 0 = .ok (.aload_n 0, 1) := by decide +kernel
theorem dX4_board_1 : decode cX4_board 1 = .ok (.getfield 10, 3) := by decide +kernel
theorem dX4_board_4 : decode cX4_board 4 = .ok (.iload_n 1, 1) := by decide +kernel
theorem dX4_board_5 : decode cX4_board 5 = .ok (.invokevirtual 109, 3) := by decide +kernel
theorem dX4_board_8 : decode cX4_board 8 = .ok (.astore_n 3, 1) := by decide +kernel
theorem dX4_board_9 : decode cX4_board 9 = .ok (.aload_n 3, 1) := by decide +kernel
theorem dX4_board_10 : decode cX4_board 10 = .ok (.ifnonnull 5, 3) := by decide +kernel
theorem dX4_board_13 : decode cX4_board 13 = .ok (.iconst (-1), 1) := by decide +kernel
theorem dX4_board_14 : decode cX4_board 14 = .ok (.ireturn, 1) := by decide +kernel
theorem dX4_board_15 : decode cX4_board 15 = .ok (.iload_n 2, 1) := by decide +kernel
theorem dX4_board_16 : decode cX4_board 16 = .ok (.tableswitch 100 0 4 #[36, 49, 62, 67, 84], 36) := by decide +kernel
theorem dX4_board_52 : decode cX4_board 52 = .ok (.aload_n 3, 1) := by decide +kernel
theorem dX4_board_53 : decode cX4_board 53 = .ok (.getfield 128, 3) := by decide +kernel
theorem dX4_board_56 : decode cX4_board 56 = .ok (.ifCond .eq 7, 3) := by decide +kernel
theorem dX4_board_59 : decode cX4_board 59 = .ok (.iconst 1, 1) := by decide +kernel
theorem dX4_board_60 : decode cX4_board 60 = .ok (.goto 4, 3) := by decide +kernel
theorem dX4_board_63 : decode cX4_board 63 = .ok (.iconst 0, 1) := by decide +kernel
theorem dX4_board_64 : decode cX4_board 64 = .ok (.ireturn, 1) := by decide +kernel
theorem dX4_board_65 : decode cX4_board 65 = .ok (.aload_n 3, 1) := by decide +kernel
theorem dX4_board_66 : decode cX4_board 66 = .ok (.getfield 113, 3) := by decide +kernel
theorem dX4_board_69 : decode cX4_board 69 = .ok (.ifCond .eq 7, 3) := by decide +kernel
theorem dX4_board_72 : decode cX4_board 72 = .ok (.iconst 1, 1) := by decide +kernel
theorem dX4_board_73 : decode cX4_board 73 = .ok (.goto 4, 3) := by decide +kernel
theorem dX4_board_76 : decode cX4_board 76 = .ok (.iconst 0, 1) := by decide +kernel
theorem dX4_board_77 : decode cX4_board 77 = .ok (.ireturn, 1) := by decide +kernel
theorem dX4_board_78 : decode cX4_board 78 = .ok (.aload_n 3, 1) := by decide +kernel
theorem dX4_board_79 : decode cX4_board 79 = .ok (.getfield 134, 3) := by decide +kernel
theorem dX4_board_82 : decode cX4_board 82 = .ok (.ireturn, 1) := by decide +kernel
theorem dX4_board_83 : decode cX4_board 83 = .ok (.aload_n 3, 1) := by decide +kernel
theorem dX4_board_84 : decode cX4_board 84 = .ok (.getfield 128, 3) := by decide +kernel
theorem dX4_board_87 : decode cX4_board 87 = .ok (.ifCond .eq 10, 3) := by decide +kernel
theorem dX4_board_90 : decode cX4_board 90 = .ok (.aload_n 3, 1) := by decide +kernel
theorem dX4_board_91 : decode cX4_board 91 = .ok (.invokevirtual 152, 3) := by decide +kernel
theorem dX4_board_94 : decode cX4_board 94 = .ok (.goto 5, 3) := by decide +kernel
theorem dX4_board_97 : decode cX4_board 97 = .ok (.bipush (-6), 2) := by decide +kernel
theorem dX4_board_99 : decode cX4_board 99 = .ok (.ireturn, 1) := by decide +kernel
theorem dX4_board_100 : decode cX4_board 100 = .ok (.aload_n 3, 1) := by decide +kernel
theorem dX4_board_101 : decode cX4_board 101 = .ok (.getfield 128, 3) := by decide +kernel
theorem dX4_board_104 : decode cX4_board 104 = .ok (.ifCond .eq 10, 3) := by decide +kernel
theorem dX4_board_107 : decode cX4_board 107 = .ok (.aload_n 3, 1) := by decide +kernel
theorem dX4_board_108 : decode cX4_board 108 = .ok (.invokevirtual 155, 3) := by decide +kernel
theorem dX4_board_111 : decode cX4_board 111 = .ok (.goto 4, 3) := by decide +kernel
theorem dX4_board_114 : decode cX4_board 114 = .ok (.iconst 0, 1) := by decide +kernel
theorem dX4_board_115 : decode cX4_board 115 = .ok (.ireturn, 1) := by decide +kernel
theorem dX4_board_116 : decode cX4_board 116 = .ok (.bipush (-2), 2) := by decide +kernel
theorem dX4_board_118 : decode cX4_board 118 = .ok (.ireturn, 1) := by decide +kernel
theorem dX4_count_0 : decode cX4_count 0 = .ok (.iload_n 1, 1) := by decide +kernel
theorem dX4_count_1 : decode cX4_count 1 = .ok (.tableswitch 192 0 13 #[71, 81, 91, 99, 107, 123, 131, 139, 147, 155, 163, 171, 179, 187], 71) := by decide +kernel
theorem dX4_count_72 : decode cX4_count 72 = .ok (.aload_n 0, 1) := by decide +kernel
theorem dX4_count_73 : decode cX4_count 73 = .ok (.getfield 10, 3) := by decide +kernel
theorem dX4_count_76 : decode cX4_count 76 = .ok (.getfield 54, 3) := by decide +kernel
theorem dX4_count_79 : decode cX4_count 79 = .ok (.iconst 0, 1) := by decide +kernel
theorem dX4_count_80 : decode cX4_count 80 = .ok (.iaload, 1) := by decide +kernel
theorem dX4_count_81 : decode cX4_count 81 = .ok (.ireturn, 1) := by decide +kernel
theorem dX4_count_82 : decode cX4_count 82 = .ok (.aload_n 0, 1) := by decide +kernel
theorem dX4_count_83 : decode cX4_count 83 = .ok (.getfield 10, 3) := by decide +kernel
theorem dX4_count_86 : decode cX4_count 86 = .ok (.getfield 54, 3) := by decide +kernel
theorem dX4_count_89 : decode cX4_count 89 = .ok (.iconst 1, 1) := by decide +kernel
theorem dX4_count_90 : decode cX4_count 90 = .ok (.iaload, 1) := by decide +kernel
theorem dX4_count_91 : decode cX4_count 91 = .ok (.ireturn, 1) := by decide +kernel
theorem dX4_count_92 : decode cX4_count 92 = .ok (.aload_n 0, 1) := by decide +kernel
theorem dX4_count_93 : decode cX4_count 93 = .ok (.getfield 10, 3) := by decide +kernel
theorem dX4_count_96 : decode cX4_count 96 = .ok (.getfield 57, 3) := by decide +kernel
theorem dX4_count_99 : decode cX4_count 99 = .ok (.ireturn, 1) := by decide +kernel
theorem dX4_count_100 : decode cX4_count 100 = .ok (.aload_n 0, 1) := by decide +kernel
theorem dX4_count_101 : decode cX4_count 101 = .ok (.getfield 10, 3) := by decide +kernel
theorem dX4_count_104 : decode cX4_count 104 = .ok (.invokevirtual 64, 3) := by decide +kernel
theorem dX4_count_107 : decode cX4_count 107 = .ok (.ireturn, 1) := by decide +kernel
theorem dX4_count_108 : decode cX4_count 108 = .ok (.aload_n 0, 1) := by decide +kernel
theorem dX4_count_109 : decode cX4_count 109 = .ok (.getfield 10, 3) := by decide +kernel
theorem dX4_count_112 : decode cX4_count 112 = .ok (.getfield 102, 3) := by decide +kernel
theorem dX4_count_115 : decode cX4_count 115 = .ok (.ifCond .eq 7, 3) := by decide +kernel
theorem dX4_count_118 : decode cX4_count 118 = .ok (.iconst 1, 1) := by decide +kernel
theorem dX4_count_119 : decode cX4_count 119 = .ok (.goto 4, 3) := by decide +kernel
theorem dX4_count_122 : decode cX4_count 122 = .ok (.iconst 0, 1) := by decide +kernel
theorem dX4_count_123 : decode cX4_count 123 = .ok (.ireturn, 1) := by decide +kernel
theorem dX4_count_124 : decode cX4_count 124 = .ok (.aload_n 0, 1) := by decide +kernel
theorem dX4_count_125 : decode cX4_count 125 = .ok (.getfield 10, 3) := by decide +kernel
theorem dX4_count_128 : decode cX4_count 128 = .ok (.getfield 158, 3) := by decide +kernel
theorem dX4_count_131 : decode cX4_count 131 = .ok (.ireturn, 1) := by decide +kernel
theorem dX4_count_132 : decode cX4_count 132 = .ok (.aload_n 0, 1) := by decide +kernel
theorem dX4_count_133 : decode cX4_count 133 = .ok (.getfield 10, 3) := by decide +kernel
theorem dX4_count_136 : decode cX4_count 136 = .ok (.getfield 161, 3) := by decide +kernel
theorem dX4_count_139 : decode cX4_count 139 = .ok (.ireturn, 1) := by decide +kernel
theorem dX4_count_140 : decode cX4_count 140 = .ok (.aload_n 0, 1) := by decide +kernel
theorem dX4_count_141 : decode cX4_count 141 = .ok (.getfield 10, 3) := by decide +kernel
theorem dX4_count_144 : decode cX4_count 144 = .ok (.getfield 164, 3) := by decide +kernel
theorem dX4_count_147 : decode cX4_count 147 = .ok (.ireturn, 1) := by decide +kernel
theorem dX4_count_148 : decode cX4_count 148 = .ok (.aload_n 0, 1) := by decide +kernel
theorem dX4_count_149 : decode cX4_count 149 = .ok (.getfield 10, 3) := by decide +kernel
theorem dX4_count_152 : decode cX4_count 152 = .ok (.getfield 122, 3) := by decide +kernel
theorem dX4_count_155 : decode cX4_count 155 = .ok (.ireturn, 1) := by decide +kernel
theorem dX4_count_156 : decode cX4_count 156 = .ok (.aload_n 0, 1) := by decide +kernel
theorem dX4_count_157 : decode cX4_count 157 = .ok (.getfield 10, 3) := by decide +kernel
theorem dX4_count_160 : decode cX4_count 160 = .ok (.getfield 137, 3) := by decide +kernel
theorem dX4_count_163 : decode cX4_count 163 = .ok (.ireturn, 1) := by decide +kernel
theorem dX4_count_164 : decode cX4_count 164 = .ok (.aload_n 0, 1) := by decide +kernel
theorem dX4_count_165 : decode cX4_count 165 = .ok (.getfield 10, 3) := by decide +kernel
theorem dX4_count_168 : decode cX4_count 168 = .ok (.invokevirtual 131, 3) := by decide +kernel
theorem dX4_count_171 : decode cX4_count 171 = .ok (.ireturn, 1) := by decide +kernel
theorem dX4_count_172 : decode cX4_count 172 = .ok (.aload_n 0, 1) := by decide +kernel
theorem dX4_count_173 : decode cX4_count 173 = .ok (.getfield 10, 3) := by decide +kernel
theorem dX4_count_176 : decode cX4_count 176 = .ok (.invokevirtual 167, 3) := by decide +kernel
theorem dX4_count_179 : decode cX4_count 179 = .ok (.ireturn, 1) := by decide +kernel
theorem dX4_count_180 : decode cX4_count 180 = .ok (.aload_n 0, 1) := by decide +kernel
theorem dX4_count_181 : decode cX4_count 181 = .ok (.getfield 26, 3) := by decide +kernel
theorem dX4_count_184 : decode cX4_count 184 = .ok (.getfield 71, 3) := by decide +kernel
theorem dX4_count_187 : decode cX4_count 187 = .ok (.ireturn, 1) := by decide +kernel
theorem dX4_count_188 : decode cX4_count 188 = .ok (.aload_n 0, 1) := by decide +kernel
theorem dX4_count_189 : decode cX4_count 189 = .ok (.getfield 34, 3) := by decide +kernel
theorem dX4_count_192 : decode cX4_count 192 = .ok (.ireturn, 1) := by decide +kernel
theorem dX4_count_193 : decode cX4_count 193 = .ok (.bipush (-2), 2) := by decide +kernel
theorem dX4_count_195 : decode cX4_count 195 = .ok (.ireturn, 1) := by decide +kernel
theorem dX4_alike_0 : decode cX4_alike 0 = .ok (.aload_n 0, 1) := by decide +kernel
theorem dX4_alike_1 : decode cX4_alike 1 = .ok (.getfield 10, 3) := by decide +kernel
theorem dX4_alike_4 : decode cX4_alike 4 = .ok (.iload_n 1, 1) := by decide +kernel
theorem dX4_alike_5 : decode cX4_alike 5 = .ok (.invokevirtual 109, 3) := by decide +kernel
theorem dX4_alike_8 : decode cX4_alike 8 = .ok (.astore_n 3, 1) := by decide +kernel
theorem dX4_alike_9 : decode cX4_alike 9 = .ok (.aload_n 0, 1) := by decide +kernel
theorem dX4_alike_10 : decode cX4_alike 10 = .ok (.getfield 10, 3) := by decide +kernel
theorem dX4_alike_13 : decode cX4_alike 13 = .ok (.iload_n 2, 1) := by decide +kernel
theorem dX4_alike_14 : decode cX4_alike 14 = .ok (.invokevirtual 109, 3) := by decide +kernel
theorem dX4_alike_17 : decode cX4_alike 17 = .ok (.astore 4, 2) := by decide +kernel
theorem dX4_alike_19 : decode cX4_alike 19 = .ok (.aload_n 3, 1) := by decide +kernel
theorem dX4_alike_20 : decode cX4_alike 20 = .ok (.ifnull 8, 3) := by decide +kernel
theorem dX4_alike_23 : decode cX4_alike 23 = .ok (.aload 4, 2) := by decide +kernel
theorem dX4_alike_25 : decode cX4_alike 25 = .ok (.ifnonnull 5, 3) := by decide +kernel
theorem dX4_alike_28 : decode cX4_alike 28 = .ok (.iconst (-1), 1) := by decide +kernel
theorem dX4_alike_29 : decode cX4_alike 29 = .ok (.ireturn, 1) := by decide +kernel
theorem dX4_alike_30 : decode cX4_alike 30 = .ok (.aload_n 3, 1) := by decide +kernel
theorem dX4_alike_31 : decode cX4_alike 31 = .ok (.getfield 128, 3) := by decide +kernel
theorem dX4_alike_34 : decode cX4_alike 34 = .ok (.ifCond .eq 11, 3) := by decide +kernel
theorem dX4_alike_37 : decode cX4_alike 37 = .ok (.aload 4, 2) := by decide +kernel
theorem dX4_alike_39 : decode cX4_alike 39 = .ok (.getfield 128, 3) := by decide +kernel
theorem dX4_alike_42 : decode cX4_alike 42 = .ok (.ifCond .ne 6, 3) := by decide +kernel
theorem dX4_alike_45 : decode cX4_alike 45 = .ok (.bipush (-6), 2) := by decide +kernel
theorem dX4_alike_47 : decode cX4_alike 47 = .ok (.ireturn, 1) := by decide +kernel
theorem dX4_alike_48 : decode cX4_alike 48 = .ok (.aload_n 3, 1) := by decide +kernel
theorem dX4_alike_49 : decode cX4_alike 49 = .ok (.aload 4, 2) := by decide +kernel
theorem dX4_alike_51 : decode cX4_alike 51 = .ok (.invokevirtual 170, 3) := by decide +kernel
theorem dX4_alike_54 : decode cX4_alike 54 = .ok (.ifCond .eq 7, 3) := by decide +kernel
theorem dX4_alike_57 : decode cX4_alike 57 = .ok (.iconst 1, 1) := by decide +kernel
theorem dX4_alike_58 : decode cX4_alike 58 = .ok (.goto 4, 3) := by decide +kernel
theorem dX4_alike_61 : decode cX4_alike 61 = .ok (.iconst 0, 1) := by decide +kernel
theorem dX4_alike_62 : decode cX4_alike 62 = .ok (.ireturn, 1) := by decide +kernel
theorem dX4_ifRiffled_0 : decode cX4_ifRiffled 0 = .ok (.iload_n 1, 1) := by decide +kernel
theorem dX4_ifRiffled_1 : decode cX4_ifRiffled 1 = .ok (.iconst 1, 1) := by decide +kernel
theorem dX4_ifRiffled_2 : decode cX4_ifRiffled 2 = .ok (.if_icmp .lt 9, 3) := by decide +kernel
theorem dX4_ifRiffled_5 : decode cX4_ifRiffled 5 = .ok (.iload_n 1, 1) := by decide +kernel
theorem dX4_ifRiffled_6 : decode cX4_ifRiffled 6 = .ok (.bipush 20, 2) := by decide +kernel
theorem dX4_ifRiffled_8 : decode cX4_ifRiffled 8 = .ok (.if_icmp .le 6, 3) := by decide +kernel
theorem dX4_ifRiffled_11 : decode cX4_ifRiffled 11 = .ok (.bipush (-2), 2) := by decide +kernel
theorem dX4_ifRiffled_13 : decode cX4_ifRiffled 13 = .ok (.ireturn, 1) := by decide +kernel
theorem dX4_ifRiffled_14 : decode cX4_ifRiffled 14 = .ok (.iload_n 2, 1) := by decide +kernel
theorem dX4_ifRiffled_15 : decode cX4_ifRiffled 15 = .ok (.ifCond .eq 11, 3) := by decide +kernel
theorem dX4_ifRiffled_18 : decode cX4_ifRiffled 18 = .ok (.iload_n 2, 1) := by decide +kernel
theorem dX4_ifRiffled_19 : decode cX4_ifRiffled 19 = .ok (.iconst 1, 1) := by decide +kernel
theorem dX4_ifRiffled_20 : decode cX4_ifRiffled 20 = .ok (.if_icmp .eq 6, 3) := by decide +kernel
theorem dX4_ifRiffled_23 : decode cX4_ifRiffled 23 = .ok (.bipush (-2), 2) := by decide +kernel
theorem dX4_ifRiffled_25 : decode cX4_ifRiffled 25 = .ok (.ireturn, 1) := by decide +kernel
theorem dX4_ifRiffled_26 : decode cX4_ifRiffled 26 = .ok (.aload_n 0, 1) := by decide +kernel
theorem dX4_ifRiffled_27 : decode cX4_ifRiffled 27 = .ok (.getfield 19, 3) := by decide +kernel
theorem dX4_ifRiffled_30 : decode cX4_ifRiffled 30 = .ok (.aload_n 0, 1) := by decide +kernel
theorem dX4_ifRiffled_31 : decode cX4_ifRiffled 31 = .ok (.getfield 10, 3) := by decide +kernel
theorem dX4_ifRiffled_34 : decode cX4_ifRiffled 34 = .ok (.invokevirtual 78, 3) := by decide +kernel
theorem dX4_ifRiffled_37 : decode cX4_ifRiffled 37 = .ok (.aload_n 0, 1) := by decide +kernel
theorem dX4_ifRiffled_38 : decode cX4_ifRiffled 38 = .ok (.getfield 19, 3) := by decide +kernel
theorem dX4_ifRiffled_41 : decode cX4_ifRiffled 41 = .ok (.iload_n 1, 1) := by decide +kernel
theorem dX4_ifRiffled_42 : decode cX4_ifRiffled 42 = .ok (.invokevirtual 82, 3) := by decide +kernel
theorem dX4_ifRiffled_45 : decode cX4_ifRiffled 45 = .ok (.aload_n 0, 1) := by decide +kernel
theorem dX4_ifRiffled_46 : decode cX4_ifRiffled 46 = .ok (.getfield 19, 3) := by decide +kernel
theorem dX4_ifRiffled_49 : decode cX4_ifRiffled 49 = .ok (.iload_n 2, 1) := by decide +kernel
theorem dX4_ifRiffled_50 : decode cX4_ifRiffled 50 = .ok (.invokevirtual 85, 3) := by decide +kernel
theorem dX4_ifRiffled_53 : decode cX4_ifRiffled 53 = .ok (.ireturn, 1) := by decide +kernel
theorem dX4_needed_0 : decode cX4_needed 0 = .ok (.aload_n 0, 1) := by decide +kernel
theorem dX4_needed_1 : decode cX4_needed 1 = .ok (.getfield 19, 3) := by decide +kernel
theorem dX4_needed_4 : decode cX4_needed 4 = .ok (.aload_n 0, 1) := by decide +kernel
theorem dX4_needed_5 : decode cX4_needed 5 = .ok (.getfield 10, 3) := by decide +kernel
theorem dX4_needed_8 : decode cX4_needed 8 = .ok (.invokevirtual 78, 3) := by decide +kernel
theorem dX4_needed_11 : decode cX4_needed 11 = .ok (.iconst 1, 1) := by decide +kernel
theorem dX4_needed_12 : decode cX4_needed 12 = .ok (.istore_n 1, 1) := by decide +kernel
theorem dX4_needed_13 : decode cX4_needed 13 = .ok (.iload_n 1, 1) := by decide +kernel
theorem dX4_needed_14 : decode cX4_needed 14 = .ok (.bipush 20, 2) := by decide +kernel
theorem dX4_needed_16 : decode cX4_needed 16 = .ok (.if_icmp .gt 38, 3) := by decide +kernel
theorem dX4_needed_19 : decode cX4_needed 19 = .ok (.aload_n 0, 1) := by decide +kernel
theorem dX4_needed_20 : decode cX4_needed 20 = .ok (.getfield 19, 3) := by decide +kernel
theorem dX4_needed_23 : decode cX4_needed 23 = .ok (.invokevirtual 174, 3) := by decide +kernel
theorem dX4_needed_26 : decode cX4_needed 26 = .ok (.aload_n 0, 1) := by decide +kernel
theorem dX4_needed_27 : decode cX4_needed 27 = .ok (.getfield 19, 3) := by decide +kernel
theorem dX4_needed_30 : decode cX4_needed 30 = .ok (.iconst 0, 1) := by decide +kernel
theorem dX4_needed_31 : decode cX4_needed 31 = .ok (.invokevirtual 85, 3) := by decide +kernel
theorem dX4_needed_34 : decode cX4_needed 34 = .ok (.aload_n 0, 1) := by decide +kernel
theorem dX4_needed_35 : decode cX4_needed 35 = .ok (.getfield 10, 3) := by decide +kernel
theorem dX4_needed_38 : decode cX4_needed 38 = .ok (.getfield 54, 3) := by decide +kernel
theorem dX4_needed_41 : decode cX4_needed 41 = .ok (.iconst 0, 1) := by decide +kernel
theorem dX4_needed_42 : decode cX4_needed 42 = .ok (.iaload, 1) := by decide +kernel
theorem dX4_needed_43 : decode cX4_needed 43 = .ok (.if_icmp .gt 5, 3) := by decide +kernel
theorem dX4_needed_46 : decode cX4_needed 46 = .ok (.iload_n 1, 1) := by decide +kernel
theorem dX4_needed_47 : decode cX4_needed 47 = .ok (.ireturn, 1) := by decide +kernel
theorem dX4_needed_48 : decode cX4_needed 48 = .ok (.iinc 1 1, 3) := by decide +kernel
theorem dX4_needed_51 : decode cX4_needed 51 = .ok (.goto (-38), 3) := by decide +kernel
theorem dX4_needed_54 : decode cX4_needed 54 = .ok (.bipush (-6), 2) := by decide +kernel
theorem dX4_needed_56 : decode cX4_needed 56 = .ok (.ireturn, 1) := by decide +kernel
theorem dX4_worstBend_0 : decode cX4_worstBend 0 = .ok (.bipush (-6), 2) := by decide +kernel
theorem dX4_worstBend_2 : decode cX4_worstBend 2 = .ok (.istore_n 1, 1) := by decide +kernel
theorem dX4_worstBend_3 : decode cX4_worstBend 3 = .ok (.bipush 52, 2) := by decide +kernel
theorem dX4_worstBend_5 : decode cX4_worstBend 5 = .ok (.istore_n 2, 1) := by decide +kernel
theorem dX4_worstBend_6 : decode cX4_worstBend 6 = .ok (.iconst 0, 1) := by decide +kernel
theorem dX4_worstBend_7 : decode cX4_worstBend 7 = .ok (.istore_n 3, 1) := by decide +kernel
theorem dX4_worstBend_8 : decode cX4_worstBend 8 = .ok (.iload_n 3, 1) := by decide +kernel
theorem dX4_worstBend_9 : decode cX4_worstBend 9 = .ok (.bipush 52, 2) := by decide +kernel
theorem dX4_worstBend_11 : decode cX4_worstBend 11 = .ok (.if_icmp .ge 39, 3) := by decide +kernel
theorem dX4_worstBend_14 : decode cX4_worstBend 14 = .ok (.aload_n 0, 1) := by decide +kernel
theorem dX4_worstBend_15 : decode cX4_worstBend 15 = .ok (.getfield 10, 3) := by decide +kernel
theorem dX4_worstBend_18 : decode cX4_worstBend 18 = .ok (.getfield 177, 3) := by decide +kernel
theorem dX4_worstBend_21 : decode cX4_worstBend 21 = .ok (.iload_n 3, 1) := by decide +kernel
theorem dX4_worstBend_22 : decode cX4_worstBend 22 = .ok (.baload, 1) := by decide +kernel
theorem dX4_worstBend_23 : decode cX4_worstBend 23 = .ok (.ifCond .eq 21, 3) := by decide +kernel
theorem dX4_worstBend_26 : decode cX4_worstBend 26 = .ok (.aload_n 0, 1) := by decide +kernel
theorem dX4_worstBend_27 : decode cX4_worstBend 27 = .ok (.iload_n 3, 1) := by decide +kernel
theorem dX4_worstBend_28 : decode cX4_worstBend 28 = .ok (.invokevirtual 181, 3) := by decide +kernel
theorem dX4_worstBend_31 : decode cX4_worstBend 31 = .ok (.istore 4, 2) := by decide +kernel
theorem dX4_worstBend_33 : decode cX4_worstBend 33 = .ok (.iload 4, 2) := by decide +kernel
theorem dX4_worstBend_35 : decode cX4_worstBend 35 = .ok (.iload_n 2, 1) := by decide +kernel
theorem dX4_worstBend_36 : decode cX4_worstBend 36 = .ok (.if_icmp .ge 8, 3) := by decide +kernel
theorem dX4_worstBend_39 : decode cX4_worstBend 39 = .ok (.iload 4, 2) := by decide +kernel
theorem dX4_worstBend_41 : decode cX4_worstBend 41 = .ok (.istore_n 2, 1) := by decide +kernel
theorem dX4_worstBend_42 : decode cX4_worstBend 42 = .ok (.iload_n 3, 1) := by decide +kernel
theorem dX4_worstBend_43 : decode cX4_worstBend 43 = .ok (.istore_n 1, 1) := by decide +kernel
theorem dX4_worstBend_44 : decode cX4_worstBend 44 = .ok (.iinc 3 1, 3) := by decide +kernel
theorem dX4_worstBend_47 : decode cX4_worstBend 47 = .ok (.goto (-39), 3) := by decide +kernel
theorem dX4_worstBend_50 : decode cX4_worstBend 50 = .ok (.iload_n 1, 1) := by decide +kernel
theorem dX4_worstBend_51 : decode cX4_worstBend 51 = .ok (.ireturn, 1) := by decide +kernel
theorem dX4_undo_0 : decode cX4_undo 0 = .ok (.aload_n 0, 1) := by decide +kernel
theorem dX4_undo_1 : decode cX4_undo 1 = .ok (.getfield 34, 3) := by decide +kernel
theorem dX4_undo_4 : decode cX4_undo 4 = .ok (.iconst 1, 1) := by decide +kernel
theorem dX4_undo_5 : decode cX4_undo 5 = .ok (.if_icmp .lt 11, 3) := by decide +kernel
theorem dX4_undo_8 : decode cX4_undo 8 = .ok (.aload_n 0, 1) := by decide +kernel
theorem dX4_undo_9 : decode cX4_undo 9 = .ok (.getfield 34, 3) := by decide +kernel
theorem dX4_undo_12 : decode cX4_undo 12 = .ok (.iconst 4, 1) := by decide +kernel
theorem dX4_undo_13 : decode cX4_undo 13 = .ok (.if_icmp .le 6, 3) := by decide +kernel
theorem dX4_undo_16 : decode cX4_undo 16 = .ok (.bipush (-5), 2) := by decide +kernel
theorem dX4_undo_18 : decode cX4_undo 18 = .ok (.ireturn, 1) := by decide +kernel
theorem dX4_undo_19 : decode cX4_undo 19 = .ok (.aload_n 0, 1) := by decide +kernel
theorem dX4_undo_20 : decode cX4_undo 20 = .ok (.dup, 1) := by decide +kernel
theorem dX4_undo_21 : decode cX4_undo 21 = .ok (.getfield 34, 3) := by decide +kernel
theorem dX4_undo_24 : decode cX4_undo 24 = .ok (.iconst 1, 1) := by decide +kernel
theorem dX4_undo_25 : decode cX4_undo 25 = .ok (.isub, 1) := by decide +kernel
theorem dX4_undo_26 : decode cX4_undo 26 = .ok (.putfield 34, 3) := by decide +kernel
theorem dX4_undo_29 : decode cX4_undo 29 = .ok (.aload_n 0, 1) := by decide +kernel
theorem dX4_undo_30 : decode cX4_undo 30 = .ok (.getfield 10, 3) := by decide +kernel
theorem dX4_undo_33 : decode cX4_undo 33 = .ok (.aload_n 0, 1) := by decide +kernel
theorem dX4_undo_34 : decode cX4_undo 34 = .ok (.getfield 30, 3) := by decide +kernel
theorem dX4_undo_37 : decode cX4_undo 37 = .ok (.aload_n 0, 1) := by decide +kernel
theorem dX4_undo_38 : decode cX4_undo 38 = .ok (.getfield 34, 3) := by decide +kernel
theorem dX4_undo_41 : decode cX4_undo 41 = .ok (.aaload, 1) := by decide +kernel
theorem dX4_undo_42 : decode cX4_undo 42 = .ok (.invokevirtual 188, 3) := by decide +kernel
theorem dX4_undo_45 : decode cX4_undo 45 = .ok (.aload_n 0, 1) := by decide +kernel
theorem dX4_undo_46 : decode cX4_undo 46 = .ok (.getfield 34, 3) := by decide +kernel
theorem dX4_undo_49 : decode cX4_undo 49 = .ok (.ireturn, 1) := by decide +kernel
theorem dX4_restore_0 : decode cX4_restore 0 = .ok (.iload_n 1, 1) := by decide +kernel
theorem dX4_restore_1 : decode cX4_restore 1 = .ok (.ifCond .lt 8, 3) := by decide +kernel
theorem dX4_restore_4 : decode cX4_restore 4 = .ok (.iload_n 1, 1) := by decide +kernel
theorem dX4_restore_5 : decode cX4_restore 5 = .ok (.iconst 2, 1) := by decide +kernel
theorem dX4_restore_6 : decode cX4_restore 6 = .ok (.if_icmp .lt 6, 3) := by decide +kernel
theorem dX4_restore_9 : decode cX4_restore 9 = .ok (.bipush (-2), 2) := by decide +kernel
theorem dX4_restore_11 : decode cX4_restore 11 = .ok (.ireturn, 1) := by decide +kernel
theorem dX4_restore_12 : decode cX4_restore 12 = .ok (.aload_n 0, 1) := by decide +kernel
theorem dX4_restore_13 : decode cX4_restore 13 = .ok (.getfield 38, 3) := by decide +kernel
theorem dX4_restore_16 : decode cX4_restore 16 = .ok (.iload_n 1, 1) := by decide +kernel
theorem dX4_restore_17 : decode cX4_restore 17 = .ok (.aaload, 1) := by decide +kernel
theorem dX4_restore_18 : decode cX4_restore 18 = .ok (.astore_n 2, 1) := by decide +kernel
theorem dX4_restore_19 : decode cX4_restore 19 = .ok (.aload_n 2, 1) := by decide +kernel
theorem dX4_restore_20 : decode cX4_restore 20 = .ok (.ifnonnull 6, 3) := by decide +kernel
theorem dX4_restore_23 : decode cX4_restore 23 = .ok (.bipush (-5), 2) := by decide +kernel
theorem dX4_restore_25 : decode cX4_restore 25 = .ok (.ireturn, 1) := by decide +kernel
theorem dX4_restore_26 : decode cX4_restore 26 = .ok (.aload_n 0, 1) := by decide +kernel
theorem dX4_restore_27 : decode cX4_restore 27 = .ok (.invokevirtual 51, 3) := by decide +kernel
theorem dX4_restore_30 : decode cX4_restore 30 = .ok (.aload_n 0, 1) := by decide +kernel
theorem dX4_restore_31 : decode cX4_restore 31 = .ok (.getfield 10, 3) := by decide +kernel
theorem dX4_restore_34 : decode cX4_restore 34 = .ok (.aload_n 2, 1) := by decide +kernel
theorem dX4_restore_35 : decode cX4_restore 35 = .ok (.invokevirtual 188, 3) := by decide +kernel
theorem dX4_restore_38 : decode cX4_restore 38 = .ok (.aload_n 0, 1) := by decide +kernel
theorem dX4_restore_39 : decode cX4_restore 39 = .ok (.getfield 10, 3) := by decide +kernel
theorem dX4_restore_42 : decode cX4_restore 42 = .ok (.invokevirtual 191, 3) := by decide +kernel
theorem dX4_restore_45 : decode cX4_restore 45 = .ok (.ireturn, 1) := by decide +kernel
theorem dX4_recordState_0 : decode cX4_recordState 0 = .ok (.aload_n 0, 1) := by decide +kernel
theorem dX4_recordState_1 : decode cX4_recordState 1 = .ok (.getfield 34, 3) := by decide +kernel
theorem dX4_recordState_4 : decode cX4_recordState 4 = .ok (.iconst 4, 1) := by decide +kernel
theorem dX4_recordState_5 : decode cX4_recordState 5 = .ok (.if_icmp .lt 7, 3) := by decide +kernel
theorem dX4_recordState_8 : decode cX4_recordState 8 = .ok (.aload_n 0, 1) := by decide +kernel
theorem dX4_recordState_9 : decode cX4_recordState 9 = .ok (.invokevirtual 194, 3) := by decide +kernel
theorem dX4_recordState_12 : decode cX4_recordState 12 = .ok (.aload_n 0, 1) := by decide +kernel
theorem dX4_recordState_13 : decode cX4_recordState 13 = .ok (.getfield 30, 3) := by decide +kernel
theorem dX4_recordState_16 : decode cX4_recordState 16 = .ok (.aload_n 0, 1) := by decide +kernel
theorem dX4_recordState_17 : decode cX4_recordState 17 = .ok (.getfield 34, 3) := by decide +kernel
theorem dX4_recordState_20 : decode cX4_recordState 20 = .ok (.aaload, 1) := by decide +kernel
theorem dX4_recordState_21 : decode cX4_recordState 21 = .ok (.aload_n 0, 1) := by decide +kernel
theorem dX4_recordState_22 : decode cX4_recordState 22 = .ok (.getfield 10, 3) := by decide +kernel
theorem dX4_recordState_25 : decode cX4_recordState 25 = .ok (.invokevirtual 188, 3) := by decide +kernel
theorem dX4_recordState_28 : decode cX4_recordState 28 = .ok (.aload_n 0, 1) := by decide +kernel
theorem dX4_recordState_29 : decode cX4_recordState 29 = .ok (.dup, 1) := by decide +kernel
theorem dX4_recordState_30 : decode cX4_recordState 30 = .ok (.getfield 34, 3) := by decide +kernel
theorem dX4_recordState_33 : decode cX4_recordState 33 = .ok (.iconst 1, 1) := by decide +kernel
theorem dX4_recordState_34 : decode cX4_recordState 34 = .ok (.iadd, 1) := by decide +kernel
theorem dX4_recordState_35 : decode cX4_recordState 35 = .ok (.putfield 34, 3) := by decide +kernel
theorem dX4_recordState_38 : decode cX4_recordState 38 = .ok (.return_, 1) := by decide +kernel
theorem dX4_dropOldestState_0 : decode cX4_dropOldestState 0 = .ok (.aload_n 0, 1) := by decide +kernel
theorem dX4_dropOldestState_1 : decode cX4_dropOldestState 1 = .ok (.getfield 30, 3) := by decide +kernel
theorem dX4_dropOldestState_4 : decode cX4_dropOldestState 4 = .ok (.iconst 0, 1) := by decide +kernel
theorem dX4_dropOldestState_5 : decode cX4_dropOldestState 5 = .ok (.aaload, 1) := by decide +kernel
theorem dX4_dropOldestState_6 : decode cX4_dropOldestState 6 = .ok (.astore_n 1, 1) := by decide +kernel
theorem dX4_dropOldestState_7 : decode cX4_dropOldestState 7 = .ok (.iconst 1, 1) := by decide +kernel
theorem dX4_dropOldestState_8 : decode cX4_dropOldestState 8 = .ok (.istore_n 2, 1) := by decide +kernel
theorem dX4_dropOldestState_9 : decode cX4_dropOldestState 9 = .ok (.iload_n 2, 1) := by decide +kernel
theorem dX4_dropOldestState_10 : decode cX4_dropOldestState 10 = .ok (.iconst 4, 1) := by decide +kernel
theorem dX4_dropOldestState_11 : decode cX4_dropOldestState 11 = .ok (.if_icmp .ge 23, 3) := by decide +kernel
theorem dX4_dropOldestState_14 : decode cX4_dropOldestState 14 = .ok (.aload_n 0, 1) := by decide +kernel
theorem dX4_dropOldestState_15 : decode cX4_dropOldestState 15 = .ok (.getfield 30, 3) := by decide +kernel
theorem dX4_dropOldestState_18 : decode cX4_dropOldestState 18 = .ok (.iload_n 2, 1) := by decide +kernel
theorem dX4_dropOldestState_19 : decode cX4_dropOldestState 19 = .ok (.iconst 1, 1) := by decide +kernel
theorem dX4_dropOldestState_20 : decode cX4_dropOldestState 20 = .ok (.isub, 1) := by decide +kernel
theorem dX4_dropOldestState_21 : decode cX4_dropOldestState 21 = .ok (.aload_n 0, 1) := by decide +kernel
theorem dX4_dropOldestState_22 : decode cX4_dropOldestState 22 = .ok (.getfield 30, 3) := by decide +kernel
theorem dX4_dropOldestState_25 : decode cX4_dropOldestState 25 = .ok (.iload_n 2, 1) := by decide +kernel
theorem dX4_dropOldestState_26 : decode cX4_dropOldestState 26 = .ok (.aaload, 1) := by decide +kernel
theorem dX4_dropOldestState_27 : decode cX4_dropOldestState 27 = .ok (.aastore, 1) := by decide +kernel
theorem dX4_dropOldestState_28 : decode cX4_dropOldestState 28 = .ok (.iinc 2 1, 3) := by decide +kernel
theorem dX4_dropOldestState_31 : decode cX4_dropOldestState 31 = .ok (.goto (-22), 3) := by decide +kernel
theorem dX4_dropOldestState_34 : decode cX4_dropOldestState 34 = .ok (.aload_n 0, 1) := by decide +kernel
theorem dX4_dropOldestState_35 : decode cX4_dropOldestState 35 = .ok (.getfield 30, 3) := by decide +kernel
theorem dX4_dropOldestState_38 : decode cX4_dropOldestState 38 = .ok (.iconst 3, 1) := by decide +kernel
theorem dX4_dropOldestState_39 : decode cX4_dropOldestState 39 = .ok (.aload_n 1, 1) := by decide +kernel
theorem dX4_dropOldestState_40 : decode cX4_dropOldestState 40 = .ok (.aastore, 1) := by decide +kernel
theorem dX4_dropOldestState_41 : decode cX4_dropOldestState 41 = .ok (.aload_n 0, 1) := by decide +kernel
theorem dX4_dropOldestState_42 : decode cX4_dropOldestState 42 = .ok (.iconst 3, 1) := by decide +kernel
theorem dX4_dropOldestState_43 : decode cX4_dropOldestState 43 = .ok (.putfield 34, 3) := by decide +kernel
theorem dX4_dropOldestState_46 : decode cX4_dropOldestState 46 = .ok (.return_, 1) := by decide +kernel
theorem dX4_keptWithoutBend_0 : decode cX4_keptWithoutBend 0 = .ok (.aload_n 0, 1) := by decide +kernel
theorem dX4_keptWithoutBend_1 : decode cX4_keptWithoutBend 1 = .ok (.getfield 19, 3) := by decide +kernel
theorem dX4_keptWithoutBend_4 : decode cX4_keptWithoutBend 4 = .ok (.aload_n 0, 1) := by decide +kernel
theorem dX4_keptWithoutBend_5 : decode cX4_keptWithoutBend 5 = .ok (.getfield 10, 3) := by decide +kernel
theorem dX4_keptWithoutBend_8 : decode cX4_keptWithoutBend 8 = .ok (.invokevirtual 78, 3) := by decide +kernel
theorem dX4_keptWithoutBend_11 : decode cX4_keptWithoutBend 11 = .ok (.aload_n 0, 1) := by decide +kernel
theorem dX4_keptWithoutBend_12 : decode cX4_keptWithoutBend 12 = .ok (.getfield 19, 3) := by decide +kernel
theorem dX4_keptWithoutBend_15 : decode cX4_keptWithoutBend 15 = .ok (.iload_n 1, 1) := by decide +kernel
theorem dX4_keptWithoutBend_16 : decode cX4_keptWithoutBend 16 = .ok (.invokevirtual 197, 3) := by decide +kernel
theorem dX4_keptWithoutBend_19 : decode cX4_keptWithoutBend 19 = .ok (.aload_n 0, 1) := by decide +kernel
theorem dX4_keptWithoutBend_20 : decode cX4_keptWithoutBend 20 = .ok (.getfield 19, 3) := by decide +kernel
theorem dX4_keptWithoutBend_23 : decode cX4_keptWithoutBend 23 = .ok (.aload_n 0, 1) := by decide +kernel
theorem dX4_keptWithoutBend_24 : decode cX4_keptWithoutBend 24 = .ok (.getfield 10, 3) := by decide +kernel
theorem dX4_keptWithoutBend_27 : decode cX4_keptWithoutBend 27 = .ok (.getfield 54, 3) := by decide +kernel
theorem dX4_keptWithoutBend_30 : decode cX4_keptWithoutBend 30 = .ok (.iconst 1, 1) := by decide +kernel
theorem dX4_keptWithoutBend_31 : decode cX4_keptWithoutBend 31 = .ok (.iaload, 1) := by decide +kernel
theorem dX4_keptWithoutBend_32 : decode cX4_keptWithoutBend 32 = .ok (.invokevirtual 82, 3) := by decide +kernel
theorem dX4_keptWithoutBend_35 : decode cX4_keptWithoutBend 35 = .ok (.aload_n 0, 1) := by decide +kernel
theorem dX4_keptWithoutBend_36 : decode cX4_keptWithoutBend 36 = .ok (.getfield 19, 3) := by decide +kernel
theorem dX4_keptWithoutBend_39 : decode cX4_keptWithoutBend 39 = .ok (.iconst 0, 1) := by decide +kernel
theorem dX4_keptWithoutBend_40 : decode cX4_keptWithoutBend 40 = .ok (.invokevirtual 85, 3) := by decide +kernel
theorem dX4_keptWithoutBend_43 : decode cX4_keptWithoutBend 43 = .ok (.ireturn, 1) := by decide +kernel
