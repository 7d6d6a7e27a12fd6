theorem dX5_init_0 : decode cX5_init 0 = .ok (.aload_n 0, 1) := by decide +kernel
theorem dX5_init_1 : decode cX5_init 1 = .ok (.invokespecial 1, 3) := by decide +kernel
theorem dX5_init_4 : decode cX5_init 4 = .ok (.aload_n 0, 1) := by decide +kernel
theorem dX5_init_5 : decode cX5_init 5 = .ok (.sipush 333, 3) := by decide +kernel
theorem dX5_init_8 : decode cX5_init 8 = .ok (.newarray .int, 2) := by decide +kernel
theorem dX5_init_10 : decode cX5_init 10 = .ok (.putfield 7, 3) := by decide +kernel
theorem dX5_init_13 : decode cX5_init 13 = .ok (.aload_n 0, 1) := by decide +kernel
theorem dX5_init_14 : decode cX5_init 14 = .ok (.sipush 333, 3) := by decide +kernel
theorem dX5_init_17 : decode cX5_init 17 = .ok (.newarray .int, 2) := by decide +kernel
theorem dX5_init_19 : decode cX5_init 19 = .ok (.putfield 13, 3) := by decide +kernel
theorem dX5_init_22 : decode cX5_init 22 = .ok (.aload_n 0, 1) := by decide +kernel
theorem dX5_init_23 : decode cX5_init 23 = .ok (.sipush 1332, 3) := by decide +kernel
theorem dX5_init_26 : decode cX5_init 26 = .ok (.newarray .int, 2) := by decide +kernel
theorem dX5_init_28 : decode cX5_init 28 = .ok (.putfield 16, 3) := by decide +kernel
theorem dX5_init_31 : decode cX5_init 31 = .ok (.aload_n 0, 1) := by decide +kernel
theorem dX5_init_32 : decode cX5_init 32 = .ok (.sipush 666, 3) := by decide +kernel
theorem dX5_init_35 : decode cX5_init 35 = .ok (.newarray .int, 2) := by decide +kernel
theorem dX5_init_37 : decode cX5_init 37 = .ok (.putfield 19, 3) := by decide +kernel
theorem dX5_init_40 : decode cX5_init 40 = .ok (.aload_n 0, 1) := by decide +kernel
theorem dX5_init_41 : decode cX5_init 41 = .ok (.iconst 2, 1) := by decide +kernel
theorem dX5_init_42 : decode cX5_init 42 = .ok (.newarray .boolean, 2) := by decide +kernel
theorem dX5_init_44 : decode cX5_init 44 = .ok (.putfield 22, 3) := by decide +kernel
theorem dX5_init_47 : decode cX5_init 47 = .ok (.aload_n 0, 1) := by decide +kernel
theorem dX5_init_48 : decode cX5_init 48 = .ok (.bipush 60, 2) := by decide +kernel
theorem dX5_init_50 : decode cX5_init 50 = .ok (.newarray .int, 2) := by decide +kernel
theorem dX5_init_52 : decode cX5_init 52 = .ok (.putfield 26, 3) := by decide +kernel
theorem dX5_init_55 : decode cX5_init 55 = .ok (.aload_n 0, 1) := by decide +kernel
theorem dX5_init_56 : decode cX5_init 56 = .ok (.bipush 52, 2) := by decide +kernel
theorem dX5_init_58 : decode cX5_init 58 = .ok (.newarray .int, 2) := by decide +kernel
theorem dX5_init_60 : decode cX5_init 60 = .ok (.putfield 29, 3) := by decide +kernel
theorem dX5_init_63 : decode cX5_init 63 = .ok (.aload_n 0, 1) := by decide +kernel
theorem dX5_init_64 : decode cX5_init 64 = .ok (.bipush 52, 2) := by decide +kernel
theorem dX5_init_66 : decode cX5_init 66 = .ok (.newarray .int, 2) := by decide +kernel
theorem dX5_init_68 : decode cX5_init 68 = .ok (.putfield 32, 3) := by decide +kernel
theorem dX5_init_71 : decode cX5_init 71 = .ok (.iconst 0, 1) := by decide +kernel
theorem dX5_init_72 : decode cX5_init 72 = .ok (.istore_n 1, 1) := by decide +kernel
theorem dX5_init_73 : decode cX5_init 73 = .ok (.iload_n 1, 1) := by decide +kernel
theorem dX5_init_74 : decode cX5_init 74 = .ok (.bipush 52, 2) := by decide +kernel
theorem dX5_init_76 : decode cX5_init 76 = .ok (.if_icmp .ge 16, 3) := by decide +kernel
theorem dX5_init_79 : decode cX5_init 79 = .ok (.aload_n 0, 1) := by decide +kernel
theorem dX5_init_80 : decode cX5_init 80 = .ok (.getfield 7, 3) := by decide +kernel
theorem dX5_init_83 : decode cX5_init 83 = .ok (.iload_n 1, 1) := by decide +kernel
theorem dX5_init_84 : decode cX5_init 84 = .ok (.iload_n 1, 1) := by decide +kernel
theorem dX5_init_85 : decode cX5_init 85 = .ok (.iastore, 1) := by decide +kernel
theorem dX5_init_86 : decode cX5_init 86 = .ok (.iinc 1 1, 3) := by decide +kernel
theorem dX5_init_89 : decode cX5_init 89 = .ok (.goto (-16), 3) := by decide +kernel
theorem dX5_init_92 : decode cX5_init 92 = .ok (.aload_n 0, 1) := by decide +kernel
theorem dX5_init_93 : decode cX5_init 93 = .ok (.getfield 7, 3) := by decide +kernel
theorem dX5_init_96 : decode cX5_init 96 = .ok (.sipush 324, 3) := by decide +kernel
theorem dX5_init_99 : decode cX5_init 99 = .ok (.bipush 8, 2) := by decide +kernel
theorem dX5_init_101 : decode cX5_init 101 = .ok (.iastore, 1) := by decide +kernel
theorem dX5_init_102 : decode cX5_init 102 = .ok (.aload_n 0, 1) := by decide +kernel
theorem dX5_init_103 : decode cX5_init 103 = .ok (.getfield 7, 3) := by decide +kernel
theorem dX5_init_106 : decode cX5_init 106 = .ok (.sipush 325, 3) := by decide +kernel
theorem dX5_init_109 : decode cX5_init 109 = .ok (.iconst 3, 1) := by decide +kernel
theorem dX5_init_110 : decode cX5_init 110 = .ok (.iastore, 1) := by decide +kernel
theorem dX5_init_111 : decode cX5_init 111 = .ok (.aload_n 0, 1) := by decide +kernel
theorem dX5_init_112 : decode cX5_init 112 = .ok (.getfield 7, 3) := by decide +kernel
theorem dX5_init_115 : decode cX5_init 115 = .ok (.sipush 326, 3) := by decide +kernel
theorem dX5_init_118 : decode cX5_init 118 = .ok (.iconst 1, 1) := by decide +kernel
theorem dX5_init_119 : decode cX5_init 119 = .ok (.iastore, 1) := by decide +kernel
theorem dX5_init_120 : decode cX5_init 120 = .ok (.aload_n 0, 1) := by decide +kernel
theorem dX5_init_121 : decode cX5_init 121 = .ok (.getfield 7, 3) := by decide +kernel
theorem dX5_init_124 : decode cX5_init 124 = .ok (.sipush 328, 3) := by decide +kernel
theorem dX5_init_127 : decode cX5_init 127 = .ok (.bipush (-6), 2) := by decide +kernel
theorem dX5_init_129 : decode cX5_init 129 = .ok (.iastore, 1) := by decide +kernel
theorem dX5_init_130 : decode cX5_init 130 = .ok (.return_, 1) := by decide +kernel
theorem dX5_in_0 : decode cX5_in 0 = .ok (.iload_n 0, 1) := by decide +kernel
theorem dX5_in_1 : decode cX5_in 1 = .ok (.iload_n 1, 1) := by decide +kernel
theorem dX5_in_2 : decode cX5_in 2 = .ok (.if_icmp .lt 12, 3) := by decide +kernel
theorem dX5_in_5 : decode cX5_in 5 = .ok (.iload_n 0, 1) := by decide +kernel
theorem dX5_in_6 : decode cX5_in 6 = .ok (.iload_n 2, 1) := by decide +kernel
theorem dX5_in_7 : decode cX5_in 7 = .ok (.if_icmp .gt 7, 3) := by decide +kernel
theorem dX5_in_10 : decode cX5_in 10 = .ok (.iconst 1, 1) := by decide +kernel
theorem dX5_in_11 : decode cX5_in 11 = .ok (.goto 4, 3) := by decide +kernel
theorem dX5_in_14 : decode cX5_in 14 = .ok (.iconst 0, 1) := by decide +kernel
theorem dX5_in_15 : decode cX5_in 15 = .ok (.ireturn, 1) := by decide +kernel
theorem dX5_isCard_0 : decode cX5_isCard 0 = .ok (.iload_n 0, 1) := by decide +kernel
theorem dX5_isCard_1 : decode cX5_isCard 1 = .ok (.iconst 0, 1) := by decide +kernel
theorem dX5_isCard_2 : decode cX5_isCard 2 = .ok (.bipush 51, 2) := by decide +kernel
theorem dX5_isCard_4 : decode cX5_isCard 4 = .ok (.invokestatic 35, 3) := by decide +kernel
theorem dX5_isCard_7 : decode cX5_isCard 7 = .ok (.ireturn, 1) := by decide +kernel
theorem dX5_isBoard_0 : decode cX5_isBoard 0 = .ok (.iload_n 0, 1) := by decide +kernel
theorem dX5_isBoard_1 : decode cX5_isBoard 1 = .ok (.iconst 0, 1) := by decide +kernel
theorem dX5_isBoard_2 : decode cX5_isBoard 2 = .ok (.iconst 3, 1) := by decide +kernel
theorem dX5_isBoard_3 : decode cX5_isBoard 3 = .ok (.invokestatic 35, 3) := by decide +kernel
theorem dX5_isBoard_6 : decode cX5_isBoard 6 = .ok (.ireturn, 1) := by decide +kernel
theorem dX5_bentCards_0 : decode cX5_bentCards 0 = .ok (.iconst 0, 1) := by decide +kernel
theorem dX5_bentCards_1 : decode cX5_bentCards 1 = .ok (.istore_n 1, 1) := by decide +kernel
theorem dX5_bentCards_2 : decode cX5_bentCards 2 = .ok (.iconst 0, 1) := by decide +kernel
theorem dX5_bentCards_3 : decode cX5_bentCards 3 = .ok (.istore_n 2, 1) := by decide +kernel
theorem dX5_bentCards_4 : decode cX5_bentCards 4 = .ok (.iload_n 2, 1) := by decide +kernel
theorem dX5_bentCards_5 : decode cX5_bentCards 5 = .ok (.bipush 52, 2) := by decide +kernel
theorem dX5_bentCards_7 : decode cX5_bentCards 7 = .ok (.if_icmp .ge 21, 3) := by decide +kernel
theorem dX5_bentCards_10 : decode cX5_bentCards 10 = .ok (.iload_n 1, 1) := by decide +kernel
theorem dX5_bentCards_11 : decode cX5_bentCards 11 = .ok (.aload_n 0, 1) := by decide +kernel
theorem dX5_bentCards_12 : decode cX5_bentCards 12 = .ok (.getfield 7, 3) := by decide +kernel
theorem dX5_bentCards_15 : decode cX5_bentCards 15 = .ok (.bipush 52, 2) := by decide +kernel
theorem dX5_bentCards_17 : decode cX5_bentCards 17 = .ok (.iload_n 2, 1) := by decide +kernel
theorem dX5_bentCards_18 : decode cX5_bentCards 18 = .ok (.iadd, 1) := by decide +kernel
theorem dX5_bentCards_19 : decode cX5_bentCards 19 = .ok (.iaload, 1) := by decide +kernel
theorem dX5_bentCards_20 : decode cX5_bentCards 20 = .ok (.iadd, 1) := by decide +kernel
theorem dX5_bentCards_21 : decode cX5_bentCards 21 = .ok (.istore_n 1, 1) := by decide +kernel
theorem dX5_bentCards_22 : decode cX5_bentCards 22 = .ok (.iinc 2 1, 3) := by decide +kernel
theorem dX5_bentCards_25 : decode cX5_bentCards 25 = .ok (.goto (-21), 3) := by decide +kernel
theorem dX5_bentCards_28 : decode cX5_bentCards 28 = .ok (.iload_n 1, 1) := by decide +kernel
theorem dX5_bentCards_29 : decode cX5_bentCards 29 = .ok (.ireturn, 1) := by decide +kernel
theorem dX5_record_0 : decode cX5_record 0 = .ok (.aload_n 0, 1) := by decide +kernel
theorem dX5_record_1 : decode cX5_record 1 = .ok (.getfield 39, 3) := by decide +kernel
theorem dX5_record_4 : decode cX5_record 4 = .ok (.iconst 4, 1) := by decide +kernel
theorem dX5_record_5 : decode cX5_record 5 = .ok (.if_icmp .ne 44, 3) := by decide +kernel
theorem dX5_record_8 : decode cX5_record 8 = .ok (.iconst 0, 1) := by decide +kernel
theorem dX5_record_9 : decode cX5_record 9 = .ok (.istore_n 1, 1) := by decide +kernel
theorem dX5_record_10 : decode cX5_record 10 = .ok (.iload_n 1, 1) := by decide +kernel
theorem dX5_record_11 : decode cX5_record 11 = .ok (.sipush 999, 3) := by decide +kernel
theorem dX5_record_14 : decode cX5_record 14 = .ok (.if_icmp .ge 25, 3) := by decide +kernel
theorem dX5_record_17 : decode cX5_record 17 = .ok (.aload_n 0, 1) := by decide +kernel
theorem dX5_record_18 : decode cX5_record 18 = .ok (.getfield 16, 3) := by decide +kernel
theorem dX5_record_21 : decode cX5_record 21 = .ok (.iload_n 1, 1) := by decide +kernel
theorem dX5_record_22 : decode cX5_record 22 = .ok (.aload_n 0, 1) := by decide +kernel
theorem dX5_record_23 : decode cX5_record 23 = .ok (.getfield 16, 3) := by decide +kernel
theorem dX5_record_26 : decode cX5_record 26 = .ok (.sipush 333, 3) := by decide +kernel
theorem dX5_record_29 : decode cX5_record 29 = .ok (.iload_n 1, 1) := by decide +kernel
theorem dX5_record_30 : decode cX5_record 30 = .ok (.iadd, 1) := by decide +kernel
theorem dX5_record_31 : decode cX5_record 31 = .ok (.iaload, 1) := by decide +kernel
theorem dX5_record_32 : decode cX5_record 32 = .ok (.iastore, 1) := by decide +kernel
theorem dX5_record_33 : decode cX5_record 33 = .ok (.iinc 1 1, 3) := by decide +kernel
theorem dX5_record_36 : decode cX5_record 36 = .ok (.goto (-26), 3) := by decide +kernel
theorem dX5_record_39 : decode cX5_record 39 = .ok (.aload_n 0, 1) := by decide +kernel
theorem dX5_record_40 : decode cX5_record 40 = .ok (.dup, 1) := by decide +kernel
theorem dX5_record_41 : decode cX5_record 41 = .ok (.getfield 39, 3) := by decide +kernel
theorem dX5_record_44 : decode cX5_record 44 = .ok (.iconst 1, 1) := by decide +kernel
theorem dX5_record_45 : decode cX5_record 45 = .ok (.isub, 1) := by decide +kernel
theorem dX5_record_46 : decode cX5_record 46 = .ok (.putfield 39, 3) := by decide +kernel
theorem dX5_record_49 : decode cX5_record 49 = .ok (.iconst 0, 1) := by decide +kernel
theorem dX5_record_50 : decode cX5_record 50 = .ok (.istore_n 1, 1) := by decide +kernel
theorem dX5_record_51 : decode cX5_record 51 = .ok (.iload_n 1, 1) := by decide +kernel
theorem dX5_record_52 : decode cX5_record 52 = .ok (.sipush 333, 3) := by decide +kernel
theorem dX5_record_55 : decode cX5_record 55 = .ok (.if_icmp .ge 30, 3) := by decide +kernel
theorem dX5_record_58 : decode cX5_record 58 = .ok (.aload_n 0, 1) := by decide +kernel
theorem dX5_record_59 : decode cX5_record 59 = .ok (.getfield 16, 3) := by decide +kernel
theorem dX5_record_62 : decode cX5_record 62 = .ok (.sipush 333, 3) := by decide +kernel
theorem dX5_record_65 : decode cX5_record 65 = .ok (.aload_n 0, 1) := by decide +kernel
theorem dX5_record_66 : decode cX5_record 66 = .ok (.getfield 39, 3) := by decide +kernel
theorem dX5_record_69 : decode cX5_record 69 = .ok (.imul, 1) := by decide +kernel
theorem dX5_record_70 : decode cX5_record 70 = .ok (.iload_n 1, 1) := by decide +kernel
theorem dX5_record_71 : decode cX5_record 71 = .ok (.iadd, 1) := by decide +kernel
theorem dX5_record_72 : decode cX5_record 72 = .ok (.aload_n 0, 1) := by decide +kernel
theorem dX5_record_73 : decode cX5_record 73 = .ok (.getfield 7, 3) := by decide +kernel
theorem dX5_record_76 : decode cX5_record 76 = .ok (.iload_n 1, 1) := by decide +kernel
theorem dX5_record_77 : decode cX5_record 77 = .ok (.iaload, 1) := by decide +kernel
theorem dX5_record_78 : decode cX5_record 78 = .ok (.iastore, 1) := by decide +kernel
theorem dX5_record_79 : decode cX5_record 79 = .ok (.iinc 1 1, 3) := by decide +kernel
theorem dX5_record_82 : decode cX5_record 82 = .ok (.goto (-31), 3) := by decide +kernel
theorem dX5_record_85 : decode cX5_record 85 = .ok (.aload_n 0, 1) := by decide +kernel
theorem dX5_record_86 : decode cX5_record 86 = .ok (.dup, 1) := by decide +kernel
theorem dX5_record_87 : decode cX5_record 87 = .ok (.getfield 39, 3) := by decide +kernel
theorem dX5_record_90 : decode cX5_record 90 = .ok (.iconst 1, 1) := by decide +kernel
theorem dX5_record_91 : decode cX5_record 91 = .ok (.iadd, 1) := by decide +kernel
theorem dX5_record_92 : decode cX5_record 92 = .ok (.putfield 39, 3) := by decide +kernel
theorem dX5_record_95 : decode cX5_record 95 = .ok (.return_, 1) := by decide +kernel
theorem dX5_undo_0 : decode cX5_undo 0 = .ok (.aload_n 0, 1) := by decide +kernel
theorem dX5_undo_1 : decode cX5_undo 1 = .ok (.getfield 39, 3) := by decide +kernel
theorem dX5_undo_4 : decode cX5_undo 4 = .ok (.ifCond .ne 6, 3) := by decide +kernel
theorem dX5_undo_7 : decode cX5_undo 7 = .ok (.bipush (-5), 2) := by decide +kernel
theorem dX5_undo_9 : decode cX5_undo 9 = .ok (.ireturn, 1) := by decide +kernel
theorem dX5_undo_10 : decode cX5_undo 10 = .ok (.aload_n 0, 1) := by decide +kernel
theorem dX5_undo_11 : decode cX5_undo 11 = .ok (.dup, 1) := by decide +kernel
theorem dX5_undo_12 : decode cX5_undo 12 = .ok (.getfield 39, 3) := by decide +kernel
theorem dX5_undo_15 : decode cX5_undo 15 = .ok (.iconst 1, 1) := by decide +kernel
theorem dX5_undo_16 : decode cX5_undo 16 = .ok (.isub, 1) := by decide +kernel
theorem dX5_undo_17 : decode cX5_undo 17 = .ok (.putfield 39, 3) := by decide +kernel
theorem dX5_undo_20 : decode cX5_undo 20 = .ok (.iconst 0, 1) := by decide +kernel
theorem dX5_undo_21 : decode cX5_undo 21 = .ok (.istore_n 1, 1) := by decide +kernel
theorem dX5_undo_22 : decode cX5_undo 22 = .ok (.iload_n 1, 1) := by decide +kernel
theorem dX5_undo_23 : decode cX5_undo 23 = .ok (.sipush 333, 3) := by decide +kernel
theorem dX5_undo_26 : decode cX5_undo 26 = .ok (.if_icmp .ge 30, 3) := by decide +kernel
theorem dX5_undo_29 : decode cX5_undo 29 = .ok (.aload_n 0, 1) := by decide +kernel
theorem dX5_undo_30 : decode cX5_undo 30 = .ok (.getfield 7, 3) := by decide +kernel
theorem dX5_undo_33 : decode cX5_undo 33 = .ok (.iload_n 1, 1) := by decide +kernel
theorem dX5_undo_34 : decode cX5_undo 34 = .ok (.aload_n 0, 1) := by decide +kernel
theorem dX5_undo_35 : decode cX5_undo 35 = .ok (.getfield 16, 3) := by decide +kernel
theorem dX5_undo_38 : decode cX5_undo 38 = .ok (.sipush 333, 3) := by decide +kernel
theorem dX5_undo_41 : decode cX5_undo 41 = .ok (.aload_n 0, 1) := by decide +kernel
theorem dX5_undo_42 : decode cX5_undo 42 = .ok (.getfield 39, 3) := by decide +kernel
theorem dX5_undo_45 : decode cX5_undo 45 = .ok (.imul, 1) := by decide +kernel
theorem dX5_undo_46 : decode cX5_undo 46 = .ok (.iload_n 1, 1) := by decide +kernel
theorem dX5_undo_47 : decode cX5_undo 47 = .ok (.iadd, 1) := by decide +kernel
theorem dX5_undo_48 : decode cX5_undo 48 = .ok (.iaload, 1) := by decide +kernel
theorem dX5_undo_49 : decode cX5_undo 49 = .ok (.iastore, 1) := by decide +kernel
theorem dX5_undo_50 : decode cX5_undo 50 = .ok (.iinc 1 1, 3) := by decide +kernel
theorem dX5_undo_53 : decode cX5_undo 53 = .ok (.goto (-31), 3) := by decide +kernel
theorem dX5_undo_56 : decode cX5_undo 56 = .ok (.aload_n 0, 1) := by decide +kernel
theorem dX5_undo_57 : decode cX5_undo 57 = .ok (.getfield 39, 3) := by decide +kernel
theorem dX5_undo_60 : decode cX5_undo 60 = .ok (.ireturn, 1) := by decide +kernel
theorem dX5_boardsOf_0 : decode cX5_boardsOf 0 = .ok (.iconst 0, 1) := by decide +kernel
theorem dX5_boardsOf_1 : decode cX5_boardsOf 1 = .ok (.istore_n 2, 1) := by decide +kernel
theorem dX5_boardsOf_2 : decode cX5_boardsOf 2 = .ok (.iconst 0, 1) := by decide +kernel
theorem dX5_boardsOf_3 : decode cX5_boardsOf 3 = .ok (.istore_n 3, 1) := by decide +kernel
theorem dX5_boardsOf_4 : decode cX5_boardsOf 4 = .ok (.iload_n 3, 1) := by decide +kernel
theorem dX5_boardsOf_5 : decode cX5_boardsOf 5 = .ok (.iconst 4, 1) := by decide +kernel
theorem dX5_boardsOf_6 : decode cX5_boardsOf 6 = .ok (.if_icmp .ge 20, 3) := by decide +kernel
theorem dX5_boardsOf_9 : decode cX5_boardsOf 9 = .ok (.iload_n 2, 1) := by decide +kernel
theorem dX5_boardsOf_10 : decode cX5_boardsOf 10 = .ok (.aload_n 0, 1) := by decide +kernel
theorem dX5_boardsOf_11 : decode cX5_boardsOf 11 = .ok (.getfield 7, 3) := by decide +kernel
theorem dX5_boardsOf_14 : decode cX5_boardsOf 14 = .ok (.iload_n 1, 1) := by decide +kernel
theorem dX5_boardsOf_15 : decode cX5_boardsOf 15 = .ok (.iload_n 3, 1) := by decide +kernel
theorem dX5_boardsOf_16 : decode cX5_boardsOf 16 = .ok (.iadd, 1) := by decide +kernel
theorem dX5_boardsOf_17 : decode cX5_boardsOf 17 = .ok (.iaload, 1) := by decide +kernel
theorem dX5_boardsOf_18 : decode cX5_boardsOf 18 = .ok (.iadd, 1) := by decide +kernel
theorem dX5_boardsOf_19 : decode cX5_boardsOf 19 = .ok (.istore_n 2, 1) := by decide +kernel
theorem dX5_boardsOf_20 : decode cX5_boardsOf 20 = .ok (.iinc 3 1, 3) := by decide +kernel
theorem dX5_boardsOf_23 : decode cX5_boardsOf 23 = .ok (.goto (-19), 3) := by decide +kernel
theorem dX5_boardsOf_26 : decode cX5_boardsOf 26 = .ok (.iload_n 2, 1) := by decide +kernel
theorem dX5_boardsOf_27 : decode cX5_boardsOf 27 = .ok (.ireturn, 1) := by decide +kernel
theorem dX5_save_0 : decode cX5_save 0 = .ok (.iload_n 1, 1) := by decide +kernel
theorem dX5_save_1 : decode cX5_save 1 = .ok (.iconst 0, 1) := by decide +kernel
theorem dX5_save_2 : decode cX5_save 2 = .ok (.iconst 1, 1) := by decide +kernel
theorem dX5_save_3 : decode cX5_save 3 = .ok (.invokestatic 35, 3) := by decide +kernel
theorem dX5_save_6 : decode cX5_save 6 = .ok (.ifCond .ne 6, 3) := by decide +kernel
theorem dX5_save_9 : decode cX5_save 9 = .ok (.bipush (-2), 2) := by decide +kernel
theorem dX5_save_11 : decode cX5_save 11 = .ok (.ireturn, 1) := by decide +kernel
theorem dX5_save_12 : decode cX5_save 12 = .ok (.iconst 0, 1) := by decide +kernel
theorem dX5_save_13 : decode cX5_save 13 = .ok (.istore_n 2, 1) := by decide +kernel
theorem dX5_save_14 : decode cX5_save 14 = .ok (.iload_n 2, 1) := by decide +kernel
theorem dX5_save_15 : decode cX5_save 15 = .ok (.sipush 333, 3) := by decide +kernel
theorem dX5_save_18 : decode cX5_save 18 = .ok (.if_icmp .ge 27, 3) := by decide +kernel
theorem dX5_save_21 : decode cX5_save 21 = .ok (.aload_n 0, 1) := by decide +kernel
theorem dX5_save_22 : decode cX5_save 22 = .ok (.getfield 19, 3) := by decide +kernel
theorem dX5_save_25 : decode cX5_save 25 = .ok (.sipush 333, 3) := by decide +kernel
theorem dX5_save_28 : decode cX5_save 28 = .ok (.iload_n 1, 1) := by decide +kernel
theorem dX5_save_29 : decode cX5_save 29 = .ok (.imul, 1) := by decide +kernel
theorem dX5_save_30 : decode cX5_save 30 = .ok (.iload_n 2, 1) := by decide +kernel
theorem dX5_save_31 : decode cX5_save 31 = .ok (.iadd, 1) := by decide +kernel
theorem dX5_save_32 : decode cX5_save 32 = .ok (.aload_n 0, 1) := by decide +kernel
theorem dX5_save_33 : decode cX5_save 33 = .ok (.getfield 7, 3) := by decide +kernel
theorem dX5_save_36 : decode cX5_save 36 = .ok (.iload_n 2, 1) := by decide +kernel
theorem dX5_save_37 : decode cX5_save 37 = .ok (.iaload, 1) := by decide +kernel
theorem dX5_save_38 : decode cX5_save 38 = .ok (.iastore, 1) := by decide +kernel
theorem dX5_save_39 : decode cX5_save 39 = .ok (.iinc 2 1, 3) := by decide +kernel
theorem dX5_save_42 : decode cX5_save 42 = .ok (.goto (-28), 3) := by decide +kernel
theorem dX5_save_45 : decode cX5_save 45 = .ok (.aload_n 0, 1) := by decide +kernel
theorem dX5_save_46 : decode cX5_save 46 = .ok (.getfield 22, 3) := by decide +kernel
theorem dX5_save_49 : decode cX5_save 49 = .ok (.iload_n 1, 1) := by decide +kernel
theorem dX5_save_50 : decode cX5_save 50 = .ok (.iconst 1, 1) := by decide +kernel
theorem dX5_save_51 : decode cX5_save 51 = .ok (.bastore, 1) := by decide +kernel
theorem dX5_save_52 : decode cX5_save 52 = .ok (.aload_n 0, 1) := by decide +kernel
theorem dX5_save_53 : decode cX5_save 53 = .ok (.sipush 312, 3) := by decide +kernel
theorem dX5_save_56 : decode cX5_save 56 = .ok (.invokevirtual 43, 3) := by decide +kernel
theorem dX5_save_59 : decode cX5_save 59 = .ok (.ireturn, 1) := by decide +kernel
theorem dX5_restore_0 : decode cX5_restore 0 = .ok (.iload_n 1, 1) := by decide +kernel
theorem dX5_restore_1 : decode cX5_restore 1 = .ok (.iconst 0, 1) := by decide +kernel
theorem dX5_restore_2 : decode cX5_restore 2 = .ok (.iconst 1, 1) := by decide +kernel
theorem dX5_restore_3 : decode cX5_restore 3 = .ok (.invokestatic 35, 3) := by decide +kernel
theorem dX5_restore_6 : decode cX5_restore 6 = .ok (.ifCond .ne 6, 3) := by decide +kernel
theorem dX5_restore_9 : decode cX5_restore 9 = .ok (.bipush (-2), 2) := by decide +kernel
theorem dX5_restore_11 : decode cX5_restore 11 = .ok (.ireturn, 1) := by decide +kernel
theorem dX5_restore_12 : decode cX5_restore 12 = .ok (.aload_n 0, 1) := by decide +kernel
theorem dX5_restore_13 : decode cX5_restore 13 = .ok (.getfield 22, 3) := by decide +kernel
theorem dX5_restore_16 : decode cX5_restore 16 = .ok (.iload_n 1, 1) := by decide +kernel
theorem dX5_restore_17 : decode cX5_restore 17 = .ok (.baload, 1) := by decide +kernel
theorem dX5_restore_18 : decode cX5_restore 18 = .ok (.ifCond .ne 6, 3) := by decide +kernel
theorem dX5_restore_21 : decode cX5_restore 21 = .ok (.bipush (-5), 2) := by decide +kernel
theorem dX5_restore_23 : decode cX5_restore 23 = .ok (.ireturn, 1) := by decide +kernel
theorem dX5_restore_24 : decode cX5_restore 24 = .ok (.aload_n 0, 1) := by decide +kernel
theorem dX5_restore_25 : decode cX5_restore 25 = .ok (.invokevirtual 47, 3) := by decide +kernel
theorem dX5_restore_28 : decode cX5_restore 28 = .ok (.iconst 0, 1) := by decide +kernel
theorem dX5_restore_29 : decode cX5_restore 29 = .ok (.istore_n 2, 1) := by decide +kernel
theorem dX5_restore_30 : decode cX5_restore 30 = .ok (.iload_n 2, 1) := by decide +kernel
theorem dX5_restore_31 : decode cX5_restore 31 = .ok (.sipush 333, 3) := by decide +kernel
theorem dX5_restore_34 : decode cX5_restore 34 = .ok (.if_icmp .ge 27, 3) := by decide +kernel
theorem dX5_restore_37 : decode cX5_restore 37 = .ok (.aload_n 0, 1) := by decide +kernel
theorem dX5_restore_38 : decode cX5_restore 38 = .ok (.getfield 7, 3) := by decide +kernel
theorem dX5_restore_41 : decode cX5_restore 41 = .ok (.iload_n 2, 1) := by decide +kernel
theorem dX5_restore_42 : decode cX5_restore 42 = .ok (.aload_n 0, 1) := by decide +kernel
theorem dX5_restore_43 : decode cX5_restore 43 = .ok (.getfield 19, 3) := by decide +kernel
theorem dX5_restore_46 : decode cX5_restore 46 = .ok (.sipush 333, 3) := by decide +kernel
theorem dX5_restore_49 : decode cX5_restore 49 = .ok (.iload_n 1, 1) := by decide +kernel
theorem dX5_restore_50 : decode cX5_restore 50 = .ok (.imul, 1) := by decide +kernel
theorem dX5_restore_51 : decode cX5_restore 51 = .ok (.iload_n 2, 1) := by decide +kernel
theorem dX5_restore_52 : decode cX5_restore 52 = .ok (.iadd, 1) := by decide +kernel
theorem dX5_restore_53 : decode cX5_restore 53 = .ok (.iaload, 1) := by decide +kernel
theorem dX5_restore_54 : decode cX5_restore 54 = .ok (.iastore, 1) := by decide +kernel
theorem dX5_restore_55 : decode cX5_restore 55 = .ok (.iinc 2 1, 3) := by decide +kernel
theorem dX5_restore_58 : decode cX5_restore 58 = .ok (.goto (-28), 3) := by decide +kernel
theorem dX5_restore_61 : decode cX5_restore 61 = .ok (.aload_n 0, 1) := by decide +kernel
theorem dX5_restore_62 : decode cX5_restore 62 = .ok (.sipush 312, 3) := by decide +kernel
theorem dX5_restore_65 : decode cX5_restore 65 = .ok (.invokevirtual 43, 3) := by decide +kernel
theorem dX5_restore_68 : decode cX5_restore 68 = .ok (.ireturn, 1) := by decide +kernel
theorem dX5_putAside_0 : decode cX5_putAside 0 = .ok (.iconst 0, 1) := by decide +kernel
theorem dX5_putAside_1 : decode cX5_putAside 1 = .ok (.istore_n 1, 1) := by decide +kernel
theorem dX5_putAside_2 : decode cX5_putAside 2 = .ok (.iload_n 1, 1) := by decide +kernel
theorem dX5_putAside_3 : decode cX5_putAside 3 = .ok (.sipush 333, 3) := by decide +kernel
theorem dX5_putAside_6 : decode cX5_putAside 6 = .ok (.if_icmp .ge 21, 3) := by decide +kernel
theorem dX5_putAside_9 : decode cX5_putAside 9 = .ok (.aload_n 0, 1) := by decide +kernel
theorem dX5_putAside_10 : decode cX5_putAside 10 = .ok (.getfield 13, 3) := by decide +kernel
theorem dX5_putAside_13 : decode cX5_putAside 13 = .ok (.iload_n 1, 1) := by decide +kernel
theorem dX5_putAside_14 : decode cX5_putAside 14 = .ok (.aload_n 0, 1) := by decide +kernel
theorem dX5_putAside_15 : decode cX5_putAside 15 = .ok (.getfield 7, 3) := by decide +kernel
theorem dX5_putAside_18 : decode cX5_putAside 18 = .ok (.iload_n 1, 1) := by decide +kernel
theorem dX5_putAside_19 : decode cX5_putAside 19 = .ok (.iaload, 1) := by decide +kernel
theorem dX5_putAside_20 : decode cX5_putAside 20 = .ok (.iastore, 1) := by decide +kernel
theorem dX5_putAside_21 : decode cX5_putAside 21 = .ok (.iinc 1 1, 3) := by decide +kernel
theorem dX5_putAside_24 : decode cX5_putAside 24 = .ok (.goto (-22), 3) := by decide +kernel
theorem dX5_putAside_27 : decode cX5_putAside 27 = .ok (.return_, 1) := by decide +kernel
theorem dX5_putBack_0 : decode cX5_putBack 0 = .ok (.iconst 0, 1) := by decide +kernel
theorem dX5_putBack_1 : decode cX5_putBack 1 = .ok (.istore_n 1, 1) := by decide +kernel
theorem dX5_putBack_2 : decode cX5_putBack 2 = .ok (.iload_n 1, 1) := by decide +kernel
theorem dX5_putBack_3 : decode cX5_putBack 3 = .ok (.sipush 333, 3) := by decide +kernel
theorem dX5_putBack_6 : decode cX5_putBack 6 = .ok (.if_icmp .ge 21, 3) := by decide +kernel
theorem dX5_putBack_9 : decode cX5_putBack 9 = .ok (.aload_n 0, 1) := by decide +kernel
theorem dX5_putBack_10 : decode cX5_putBack 10 = .ok (.getfield 7, 3) := by decide +kernel
theorem dX5_putBack_13 : decode cX5_putBack 13 = .ok (.iload_n 1, 1) := by decide +kernel
theorem dX5_putBack_14 : decode cX5_putBack 14 = .ok (.aload_n 0, 1) := by decide +kernel
theorem dX5_putBack_15 : decode cX5_putBack 15 = .ok (.getfield 13, 3) := by decide +kernel
theorem dX5_putBack_18 : decode cX5_putBack 18 = .ok (.iload_n 1, 1) := by decide +kernel
theorem dX5_putBack_19 : decode cX5_putBack 19 = .ok (.iaload, 1) := by decide +kernel
theorem dX5_putBack_20 : decode cX5_putBack 20 = .ok (.iastore, 1) := by decide +kernel
theorem dX5_putBack_21 : decode cX5_putBack 21 = .ok (.iinc 1 1, 3) := by decide +kernel
theorem dX5_putBack_24 : decode cX5_putBack 24 = .ok (.goto (-22), 3) := by decide +kernel
theorem dX5_putBack_27 : decode cX5_putBack 27 = .ok (.return_, 1) := by decide +kernel
theorem dX5_draw_0 : decode cX5_draw 0 = .ok (.aload_n 0, 1) := by decide +kernel
theorem dX5_draw_1 : decode cX5_draw 1 = .ok (.getfield 7, 3) := by decide +kernel
theorem dX5_draw_4 : decode cX5_draw 4 = .ok (.sipush 326, 3) := by decide +kernel
theorem dX5_draw_7 : decode cX5_draw 7 = .ok (.aload_n 0, 1) := by decide +kernel
theorem dX5_draw_8 : decode cX5_draw 8 = .ok (.getfield 7, 3) := by decide +kernel
theorem dX5_draw_11 : decode cX5_draw 11 = .ok (.sipush 326, 3) := by decide +kernel
theorem dX5_draw_14 : decode cX5_draw 14 = .ok (.iaload, 1) := by decide +kernel
theorem dX5_draw_15 : decode cX5_draw 15 = .ok (.i2l, 1) := by decide +kernel
theorem dX5_draw_16 : decode cX5_draw 16 = .ok (.ldc2_w 50, 3) := by decide +kernel
theorem dX5_draw_19 : decode cX5_draw 19 = .ok (.lmul, 1) := by decide +kernel
theorem dX5_draw_20 : decode cX5_draw 20 = .ok (.ldc2_w 52, 3) := by decide +kernel
theorem dX5_draw_23 : decode cX5_draw 23 = .ok (.ladd, 1) := by decide +kernel
theorem dX5_draw_24 : decode cX5_draw 24 = .ok (.ldc2_w 54, 3) := by decide +kernel
theorem dX5_draw_27 : decode cX5_draw 27 = .ok (.lrem, 1) := by decide +kernel
theorem dX5_draw_28 : decode cX5_draw 28 = .ok (.l2i, 1) := by decide +kernel
theorem dX5_draw_29 : decode cX5_draw 29 = .ok (.iastore, 1) := by decide +kernel
theorem dX5_draw_30 : decode cX5_draw 30 = .ok (.aload_n 0, 1) := by decide +kernel
theorem dX5_draw_31 : decode cX5_draw 31 = .ok (.getfield 7, 3) := by decide +kernel
theorem dX5_draw_34 : decode cX5_draw 34 = .ok (.sipush 326, 3) := by decide +kernel
theorem dX5_draw_37 : decode cX5_draw 37 = .ok (.iaload, 1) := by decide +kernel
theorem dX5_draw_38 : decode cX5_draw 38 = .ok (.ldc 56, 2) := by decide +kernel
theorem dX5_draw_40 : decode cX5_draw 40 = .ok (.idiv, 1) := by decide +kernel
theorem dX5_draw_41 : decode cX5_draw 41 = .ok (.iload_n 1, 1) := by decide +kernel
theorem dX5_draw_42 : decode cX5_draw 42 = .ok (.irem, 1) := by decide +kernel
theorem dX5_draw_43 : decode cX5_draw 43 = .ok (.ireturn, 1) := by decide +kernel
theorem dX5_riffle_0 : decode cX5_riffle 0 = .ok (.iconst 0, 1) := by decide +kernel
theorem dX5_riffle_1 : decode cX5_riffle 1 = .ok (.istore_n 1, 1) := by decide +kernel
theorem dX5_riffle_2 : decode cX5_riffle 2 = .ok (.bipush 24, 2) := by decide +kernel
theorem dX5_riffle_4 : decode cX5_riffle 4 = .ok (.aload_n 0, 1) := by decide +kernel
theorem dX5_riffle_5 : decode cX5_riffle 5 = .ok (.iconst 5, 1) := by decide +kernel
theorem dX5_riffle_6 : decode cX5_riffle 6 = .ok (.invokevirtual 57, 3) := by decide +kernel
theorem dX5_riffle_9 : decode cX5_riffle 9 = .ok (.iadd, 1) := by decide +kernel
theorem dX5_riffle_10 : decode cX5_riffle 10 = .ok (.istore_n 2, 1) := by decide +kernel
theorem dX5_riffle_11 : decode cX5_riffle 11 = .ok (.iload_n 2, 1) := by decide +kernel
theorem dX5_riffle_12 : decode cX5_riffle 12 = .ok (.istore_n 3, 1) := by decide +kernel
theorem dX5_riffle_13 : decode cX5_riffle 13 = .ok (.iconst 0, 1) := by decide +kernel
theorem dX5_riffle_14 : decode cX5_riffle 14 = .ok (.istore 4, 2) := by decide +kernel
theorem dX5_riffle_16 : decode cX5_riffle 16 = .ok (.iload_n 1, 1) := by decide +kernel
theorem dX5_riffle_17 : decode cX5_riffle 17 = .ok (.iload_n 2, 1) := by decide +kernel
theorem dX5_riffle_18 : decode cX5_riffle 18 = .ok (.if_icmp .ge 148, 3) := by decide +kernel
theorem dX5_riffle_21 : decode cX5_riffle 21 = .ok (.iload_n 3, 1) := by decide +kernel
theorem dX5_riffle_22 : decode cX5_riffle 22 = .ok (.bipush 52, 2) := by decide +kernel
theorem dX5_riffle_24 : decode cX5_riffle 24 = .ok (.if_icmp .ge 142, 3) := by decide +kernel
theorem dX5_riffle_27 : decode cX5_riffle 27 = .ok (.aload_n 0, 1) := by decide +kernel
theorem dX5_riffle_28 : decode cX5_riffle 28 = .ok (.iload_n 2, 1) := by decide +kernel
theorem dX5_riffle_29 : decode cX5_riffle 29 = .ok (.iload_n 1, 1) := by decide +kernel
theorem dX5_riffle_30 : decode cX5_riffle 30 = .ok (.isub, 1) := by decide +kernel
theorem dX5_riffle_31 : decode cX5_riffle 31 = .ok (.bipush 52, 2) := by decide +kernel
theorem dX5_riffle_33 : decode cX5_riffle 33 = .ok (.iadd, 1) := by decide +kernel
theorem dX5_riffle_34 : decode cX5_riffle 34 = .ok (.iload_n 3, 1) := by decide +kernel
theorem dX5_riffle_35 : decode cX5_riffle 35 = .ok (.isub, 1) := by decide +kernel
theorem dX5_riffle_36 : decode cX5_riffle 36 = .ok (.invokevirtual 57, 3) := by decide +kernel
theorem dX5_riffle_39 : decode cX5_riffle 39 = .ok (.iload_n 2, 1) := by decide +kernel
theorem dX5_riffle_40 : decode cX5_riffle 40 = .ok (.iload_n 1, 1) := by decide +kernel
theorem dX5_riffle_41 : decode cX5_riffle 41 = .ok (.isub, 1) := by decide +kernel
theorem dX5_riffle_42 : decode cX5_riffle 42 = .ok (.if_icmp .ge 7, 3) := by decide +kernel
theorem dX5_riffle_45 : decode cX5_riffle 45 = .ok (.iconst 1, 1) := by decide +kernel
theorem dX5_riffle_46 : decode cX5_riffle 46 = .ok (.goto 4, 3) := by decide +kernel
theorem dX5_riffle_49 : decode cX5_riffle 49 = .ok (.iconst 0, 1) := by decide +kernel
theorem dX5_riffle_50 : decode cX5_riffle 50 = .ok (.istore 5, 2) := by decide +kernel
theorem dX5_riffle_52 : decode cX5_riffle 52 = .ok (.iconst 1, 1) := by decide +kernel
theorem dX5_riffle_53 : decode cX5_riffle 53 = .ok (.istore 6, 2) := by decide +kernel
theorem dX5_riffle_55 : decode cX5_riffle 55 = .ok (.iload 6, 2) := by decide +kernel
theorem dX5_riffle_57 : decode cX5_riffle 57 = .ok (.ifCond .eq 106, 3) := by decide +kernel
theorem dX5_riffle_60 : decode cX5_riffle 60 = .ok (.iload 5, 2) := by decide +kernel
theorem dX5_riffle_62 : decode cX5_riffle 62 = .ok (.ifCond .eq 12, 3) := by decide +kernel
theorem dX5_riffle_65 : decode cX5_riffle 65 = .ok (.aload_n 0, 1) := by decide +kernel
theorem dX5_riffle_66 : decode cX5_riffle 66 = .ok (.getfield 7, 3) := by decide +kernel
theorem dX5_riffle_69 : decode cX5_riffle 69 = .ok (.iload_n 1, 1) := by decide +kernel
theorem dX5_riffle_70 : decode cX5_riffle 70 = .ok (.iaload, 1) := by decide +kernel
theorem dX5_riffle_71 : decode cX5_riffle 71 = .ok (.goto 9, 3) := by decide +kernel
theorem dX5_riffle_74 : decode cX5_riffle 74 = .ok (.aload_n 0, 1) := by decide +kernel
theorem dX5_riffle_75 : decode cX5_riffle 75 = .ok (.getfield 7, 3) := by decide +kernel
theorem dX5_riffle_78 : decode cX5_riffle 78 = .ok (.iload_n 3, 1) := by decide +kernel
theorem dX5_riffle_79 : decode cX5_riffle 79 = .ok (.iaload, 1) := by decide +kernel
theorem dX5_riffle_80 : decode cX5_riffle 80 = .ok (.istore 7, 2) := by decide +kernel
theorem dX5_riffle_82 : decode cX5_riffle 82 = .ok (.aload_n 0, 1) := by decide +kernel
theorem dX5_riffle_83 : decode cX5_riffle 83 = .ok (.getfield 29, 3) := by decide +kernel
theorem dX5_riffle_86 : decode cX5_riffle 86 = .ok (.iload 4, 2) := by decide +kernel
theorem dX5_riffle_88 : decode cX5_riffle 88 = .ok (.iload 7, 2) := by decide +kernel
theorem dX5_riffle_90 : decode cX5_riffle 90 = .ok (.iastore, 1) := by decide +kernel
theorem dX5_riffle_91 : decode cX5_riffle 91 = .ok (.iinc 4 1, 3) := by decide +kernel
theorem dX5_riffle_94 : decode cX5_riffle 94 = .ok (.iload_n 1, 1) := by decide +kernel
theorem dX5_riffle_95 : decode cX5_riffle 95 = .ok (.iload 5, 2) := by decide +kernel
theorem dX5_riffle_97 : decode cX5_riffle 97 = .ok (.ifCond .eq 7, 3) := by decide +kernel
theorem dX5_riffle_100 : decode cX5_riffle 100 = .ok (.iconst 1, 1) := by decide +kernel
theorem dX5_riffle_101 : decode cX5_riffle 101 = .ok (.goto 4, 3) := by decide +kernel
theorem dX5_riffle_104 : decode cX5_riffle 104 = .ok (.iconst 0, 1) := by decide +kernel
theorem dX5_riffle_105 : decode cX5_riffle 105 = .ok (.iadd, 1) := by decide +kernel
theorem dX5_riffle_106 : decode cX5_riffle 106 = .ok (.istore_n 1, 1) := by decide +kernel
theorem dX5_riffle_107 : decode cX5_riffle 107 = .ok (.iload_n 3, 1) := by decide +kernel
theorem dX5_riffle_108 : decode cX5_riffle 108 = .ok (.iload 5, 2) := by decide +kernel
theorem dX5_riffle_110 : decode cX5_riffle 110 = .ok (.ifCond .eq 7, 3) := by decide +kernel
theorem dX5_riffle_113 : decode cX5_riffle 113 = .ok (.iconst 0, 1) := by decide +kernel
theorem dX5_riffle_114 : decode cX5_riffle 114 = .ok (.goto 4, 3) := by decide +kernel
theorem dX5_riffle_117 : decode cX5_riffle 117 = .ok (.iconst 1, 1) := by decide +kernel
theorem dX5_riffle_118 : decode cX5_riffle 118 = .ok (.iadd, 1) := by decide +kernel
theorem dX5_riffle_119 : decode cX5_riffle 119 = .ok (.istore_n 3, 1) := by decide +kernel
theorem dX5_riffle_120 : decode cX5_riffle 120 = .ok (.aload_n 0, 1) := by decide +kernel
theorem dX5_riffle_121 : decode cX5_riffle 121 = .ok (.getfield 7, 3) := by decide +kernel
theorem dX5_riffle_124 : decode cX5_riffle 124 = .ok (.bipush 52, 2) := by decide +kernel
theorem dX5_riffle_126 : decode cX5_riffle 126 = .ok (.iload 7, 2) := by decide +kernel
theorem dX5_riffle_128 : decode cX5_riffle 128 = .ok (.iadd, 1) := by decide +kernel
theorem dX5_riffle_129 : decode cX5_riffle 129 = .ok (.iaload, 1) := by decide +kernel
theorem dX5_riffle_130 : decode cX5_riffle 130 = .ok (.iconst 1, 1) := by decide +kernel
theorem dX5_riffle_131 : decode cX5_riffle 131 = .ok (.if_icmp .ne 26, 3) := by decide +kernel
theorem dX5_riffle_134 : decode cX5_riffle 134 = .ok (.iload 5, 2) := by decide +kernel
theorem dX5_riffle_136 : decode cX5_riffle 136 = .ok (.ifCond .eq 11, 3) := by decide +kernel
theorem dX5_riffle_139 : decode cX5_riffle 139 = .ok (.iload_n 1, 1) := by decide +kernel
theorem dX5_riffle_140 : decode cX5_riffle 140 = .ok (.iload_n 2, 1) := by decide +kernel
theorem dX5_riffle_141 : decode cX5_riffle 141 = .ok (.if_icmp .ge 16, 3) := by decide +kernel
theorem dX5_riffle_144 : decode cX5_riffle 144 = .ok (.goto 9, 3) := by decide +kernel
theorem dX5_riffle_147 : decode cX5_riffle 147 = .ok (.iload_n 3, 1) := by decide +kernel
theorem dX5_riffle_148 : decode cX5_riffle 148 = .ok (.bipush 52, 2) := by decide +kernel
theorem dX5_riffle_150 : decode cX5_riffle 150 = .ok (.if_icmp .ge 7, 3) := by decide +kernel
theorem dX5_riffle_153 : decode cX5_riffle 153 = .ok (.iconst 1, 1) := by decide +kernel
theorem dX5_riffle_154 : decode cX5_riffle 154 = .ok (.goto 4, 3) := by decide +kernel
theorem dX5_riffle_157 : decode cX5_riffle 157 = .ok (.iconst 0, 1) := by decide +kernel
theorem dX5_riffle_158 : decode cX5_riffle 158 = .ok (.istore 6, 2) := by decide +kernel
theorem dX5_riffle_160 : decode cX5_riffle 160 = .ok (.goto (-105), 3) := by decide +kernel
theorem dX5_riffle_163 : decode cX5_riffle 163 = .ok (.goto (-147), 3) := by decide +kernel
theorem dX5_riffle_166 : decode cX5_riffle 166 = .ok (.iload_n 1, 1) := by decide +kernel
theorem dX5_riffle_167 : decode cX5_riffle 167 = .ok (.iload_n 2, 1) := by decide +kernel
theorem dX5_riffle_168 : decode cX5_riffle 168 = .ok (.if_icmp .lt 9, 3) := by decide +kernel
theorem dX5_riffle_171 : decode cX5_riffle 171 = .ok (.iload_n 3, 1) := by decide +kernel
theorem dX5_riffle_172 : decode cX5_riffle 172 = .ok (.bipush 52, 2) := by decide +kernel
theorem dX5_riffle_174 : decode cX5_riffle 174 = .ok (.if_icmp .ge 74, 3) := by decide +kernel
theorem dX5_riffle_177 : decode cX5_riffle 177 = .ok (.iload_n 1, 1) := by decide +kernel
theorem dX5_riffle_178 : decode cX5_riffle 178 = .ok (.iload_n 2, 1) := by decide +kernel
theorem dX5_riffle_179 : decode cX5_riffle 179 = .ok (.if_icmp .ge 7, 3) := by decide +kernel
theorem dX5_riffle_182 : decode cX5_riffle 182 = .ok (.iconst 1, 1) := by decide +kernel
theorem dX5_riffle_183 : decode cX5_riffle 183 = .ok (.goto 4, 3) := by decide +kernel
theorem dX5_riffle_186 : decode cX5_riffle 186 = .ok (.iconst 0, 1) := by decide +kernel
theorem dX5_riffle_187 : decode cX5_riffle 187 = .ok (.istore 5, 2) := by decide +kernel
theorem dX5_riffle_189 : decode cX5_riffle 189 = .ok (.aload_n 0, 1) := by decide +kernel
theorem dX5_riffle_190 : decode cX5_riffle 190 = .ok (.getfield 29, 3) := by decide +kernel
theorem dX5_riffle_193 : decode cX5_riffle 193 = .ok (.iload 4, 2) := by decide +kernel
theorem dX5_riffle_195 : decode cX5_riffle 195 = .ok (.iload 5, 2) := by decide +kernel
theorem dX5_riffle_197 : decode cX5_riffle 197 = .ok (.ifCond .eq 12, 3) := by decide +kernel
theorem dX5_riffle_200 : decode cX5_riffle 200 = .ok (.aload_n 0, 1) := by decide +kernel
theorem dX5_riffle_201 : decode cX5_riffle 201 = .ok (.getfield 7, 3) := by decide +kernel
theorem dX5_riffle_204 : decode cX5_riffle 204 = .ok (.iload_n 1, 1) := by decide +kernel
theorem dX5_riffle_205 : decode cX5_riffle 205 = .ok (.iaload, 1) := by decide +kernel
theorem dX5_riffle_206 : decode cX5_riffle 206 = .ok (.goto 9, 3) := by decide +kernel
theorem dX5_riffle_209 : decode cX5_riffle 209 = .ok (.aload_n 0, 1) := by decide +kernel
theorem dX5_riffle_210 : decode cX5_riffle 210 = .ok (.getfield 7, 3) := by decide +kernel
theorem dX5_riffle_213 : decode cX5_riffle 213 = .ok (.iload_n 3, 1) := by decide +kernel
theorem dX5_riffle_214 : decode cX5_riffle 214 = .ok (.iaload, 1) := by decide +kernel
theorem dX5_riffle_215 : decode cX5_riffle 215 = .ok (.iastore, 1) := by decide +kernel
theorem dX5_riffle_216 : decode cX5_riffle 216 = .ok (.iinc 4 1, 3) := by decide +kernel
theorem dX5_riffle_219 : decode cX5_riffle 219 = .ok (.iload_n 1, 1) := by decide +kernel
theorem dX5_riffle_220 : decode cX5_riffle 220 = .ok (.iload 5, 2) := by decide +kernel
theorem dX5_riffle_222 : decode cX5_riffle 222 = .ok (.ifCond .eq 7, 3) := by decide +kernel
theorem dX5_riffle_225 : decode cX5_riffle 225 = .ok (.iconst 1, 1) := by decide +kernel
theorem dX5_riffle_226 : decode cX5_riffle 226 = .ok (.goto 4, 3) := by decide +kernel
theorem dX5_riffle_229 : decode cX5_riffle 229 = .ok (.iconst 0, 1) := by decide +kernel
theorem dX5_riffle_230 : decode cX5_riffle 230 = .ok (.iadd, 1) := by decide +kernel
theorem dX5_riffle_231 : decode cX5_riffle 231 = .ok (.istore_n 1, 1) := by decide +kernel
theorem dX5_riffle_232 : decode cX5_riffle 232 = .ok (.iload_n 3, 1) := by decide +kernel
theorem dX5_riffle_233 : decode cX5_riffle 233 = .ok (.iload 5, 2) := by decide +kernel
theorem dX5_riffle_235 : decode cX5_riffle 235 = .ok (.ifCond .eq 7, 3) := by decide +kernel
theorem dX5_riffle_238 : decode cX5_riffle 238 = .ok (.iconst 0, 1) := by decide +kernel
theorem dX5_riffle_239 : decode cX5_riffle 239 = .ok (.goto 4, 3) := by decide +kernel
theorem dX5_riffle_242 : decode cX5_riffle 242 = .ok (.iconst 1, 1) := by decide +kernel
theorem dX5_riffle_243 : decode cX5_riffle 243 = .ok (.iadd, 1) := by decide +kernel
theorem dX5_riffle_244 : decode cX5_riffle 244 = .ok (.istore_n 3, 1) := by decide +kernel
theorem dX5_riffle_245 : decode cX5_riffle 245 = .ok (.goto (-79), 3) := by decide +kernel
theorem dX5_riffle_248 : decode cX5_riffle 248 = .ok (.iconst 0, 1) := by decide +kernel
theorem dX5_riffle_249 : decode cX5_riffle 249 = .ok (.istore 5, 2) := by decide +kernel
theorem dX5_riffle_251 : decode cX5_riffle 251 = .ok (.iload 5, 2) := by decide +kernel
theorem dX5_riffle_253 : decode cX5_riffle 253 = .ok (.bipush 52, 2) := by decide +kernel
theorem dX5_riffle_255 : decode cX5_riffle 255 = .ok (.if_icmp .ge 23, 3) := by decide +kernel
theorem dX5_riffle_258 : decode cX5_riffle 258 = .ok (.aload_n 0, 1) := by decide +kernel
theorem dX5_riffle_259 : decode cX5_riffle 259 = .ok (.getfield 7, 3) := by decide +kernel
theorem dX5_riffle_262 : decode cX5_riffle 262 = .ok (.iload 5, 2) := by decide +kernel
theorem dX5_riffle_264 : decode cX5_riffle 264 = .ok (.aload_n 0, 1) := by decide +kernel
theorem dX5_riffle_265 : decode cX5_riffle 265 = .ok (.getfield 29, 3) := by decide +kernel
theorem dX5_riffle_268 : decode cX5_riffle 268 = .ok (.iload 5, 2) := by decide +kernel
theorem dX5_riffle_270 : decode cX5_riffle 270 = .ok (.iaload, 1) := by decide +kernel
theorem dX5_riffle_271 : decode cX5_riffle 271 = .ok (.iastore, 1) := by decide +kernel
theorem dX5_riffle_272 : decode cX5_riffle 272 = .ok (.iinc 5 1, 3) := by decide +kernel
theorem dX5_riffle_275 : decode cX5_riffle 275 = .ok (.goto (-24), 3) := by decide +kernel
theorem dX5_riffle_278 : decode cX5_riffle 278 = .ok (.return_, 1) := by decide +kernel
theorem dX5_keptPairs_0 : decode cX5_keptPairs 0 = .ok (.iconst 0, 1) := by decide +kernel
theorem dX5_keptPairs_1 : decode cX5_keptPairs 1 = .ok (.istore_n 1, 1) := by decide +kernel
theorem dX5_keptPairs_2 : decode cX5_keptPairs 2 = .ok (.iload_n 1, 1) := by decide +kernel
theorem dX5_keptPairs_3 : decode cX5_keptPairs 3 = .ok (.bipush 52, 2) := by decide +kernel
theorem dX5_keptPairs_5 : decode cX5_keptPairs 5 = .ok (.if_icmp .ge 21, 3) := by decide +kernel
theorem dX5_keptPairs_8 : decode cX5_keptPairs 8 = .ok (.aload_n 0, 1) := by decide +kernel
theorem dX5_keptPairs_9 : decode cX5_keptPairs 9 = .ok (.getfield 32, 3) := by decide +kernel
theorem dX5_keptPairs_12 : decode cX5_keptPairs 12 = .ok (.aload_n 0, 1) := by decide +kernel
theorem dX5_keptPairs_13 : decode cX5_keptPairs 13 = .ok (.getfield 7, 3) := by decide +kernel
theorem dX5_keptPairs_16 : decode cX5_keptPairs 16 = .ok (.iload_n 1, 1) := by decide +kernel
theorem dX5_keptPairs_17 : decode cX5_keptPairs 17 = .ok (.iaload, 1) := by decide +kernel
theorem dX5_keptPairs_18 : decode cX5_keptPairs 18 = .ok (.iload_n 1, 1) := by decide +kernel
theorem dX5_keptPairs_19 : decode cX5_keptPairs 19 = .ok (.iastore, 1) := by decide +kernel
theorem dX5_keptPairs_20 : decode cX5_keptPairs 20 = .ok (.iinc 1 1, 3) := by decide +kernel
theorem dX5_keptPairs_23 : decode cX5_keptPairs 23 = .ok (.goto (-21), 3) := by decide +kernel
theorem dX5_keptPairs_26 : decode cX5_keptPairs 26 = .ok (.iconst 0, 1) := by decide +kernel
theorem dX5_keptPairs_27 : decode cX5_keptPairs 27 = .ok (.istore_n 1, 1) := by decide +kernel
theorem dX5_keptPairs_28 : decode cX5_keptPairs 28 = .ok (.iconst 0, 1) := by decide +kernel
theorem dX5_keptPairs_29 : decode cX5_keptPairs 29 = .ok (.istore_n 2, 1) := by decide +kernel
theorem dX5_keptPairs_30 : decode cX5_keptPairs 30 = .ok (.iload_n 2, 1) := by decide +kernel
theorem dX5_keptPairs_31 : decode cX5_keptPairs 31 = .ok (.iconst 1, 1) := by decide +kernel
theorem dX5_keptPairs_32 : decode cX5_keptPairs 32 = .ok (.iadd, 1) := by decide +kernel
theorem dX5_keptPairs_33 : decode cX5_keptPairs 33 = .ok (.bipush 52, 2) := by decide +kernel
theorem dX5_keptPairs_35 : decode cX5_keptPairs 35 = .ok (.if_icmp .ge 46, 3) := by decide +kernel
theorem dX5_keptPairs_38 : decode cX5_keptPairs 38 = .ok (.iload_n 1, 1) := by decide +kernel
theorem dX5_keptPairs_39 : decode cX5_keptPairs 39 = .ok (.aload_n 0, 1) := by decide +kernel
theorem dX5_keptPairs_40 : decode cX5_keptPairs 40 = .ok (.getfield 32, 3) := by decide +kernel
theorem dX5_keptPairs_43 : decode cX5_keptPairs 43 = .ok (.aload_n 0, 1) := by decide +kernel
theorem dX5_keptPairs_44 : decode cX5_keptPairs 44 = .ok (.getfield 13, 3) := by decide +kernel
theorem dX5_keptPairs_47 : decode cX5_keptPairs 47 = .ok (.iload_n 2, 1) := by decide +kernel
theorem dX5_keptPairs_48 : decode cX5_keptPairs 48 = .ok (.iaload, 1) := by decide +kernel
theorem dX5_keptPairs_49 : decode cX5_keptPairs 49 = .ok (.iaload, 1) := by decide +kernel
theorem dX5_keptPairs_50 : decode cX5_keptPairs 50 = .ok (.iconst 1, 1) := by decide +kernel
theorem dX5_keptPairs_51 : decode cX5_keptPairs 51 = .ok (.iadd, 1) := by decide +kernel
theorem dX5_keptPairs_52 : decode cX5_keptPairs 52 = .ok (.aload_n 0, 1) := by decide +kernel
theorem dX5_keptPairs_53 : decode cX5_keptPairs 53 = .ok (.getfield 32, 3) := by decide +kernel
theorem dX5_keptPairs_56 : decode cX5_keptPairs 56 = .ok (.aload_n 0, 1) := by decide +kernel
theorem dX5_keptPairs_57 : decode cX5_keptPairs 57 = .ok (.getfield 13, 3) := by decide +kernel
theorem dX5_keptPairs_60 : decode cX5_keptPairs 60 = .ok (.iload_n 2, 1) := by decide +kernel
theorem dX5_keptPairs_61 : decode cX5_keptPairs 61 = .ok (.iconst 1, 1) := by decide +kernel
theorem dX5_keptPairs_62 : decode cX5_keptPairs 62 = .ok (.iadd, 1) := by decide +kernel
theorem dX5_keptPairs_63 : decode cX5_keptPairs 63 = .ok (.iaload, 1) := by decide +kernel
theorem dX5_keptPairs_64 : decode cX5_keptPairs 64 = .ok (.iaload, 1) := by decide +kernel
theorem dX5_keptPairs_65 : decode cX5_keptPairs 65 = .ok (.if_icmp .ne 7, 3) := by decide +kernel
theorem dX5_keptPairs_68 : decode cX5_keptPairs 68 = .ok (.iconst 1, 1) := by decide +kernel
theorem dX5_keptPairs_69 : decode cX5_keptPairs 69 = .ok (.goto 4, 3) := by decide +kernel
theorem dX5_keptPairs_72 : decode cX5_keptPairs 72 = .ok (.iconst 0, 1) := by decide +kernel
theorem dX5_keptPairs_73 : decode cX5_keptPairs 73 = .ok (.iadd, 1) := by decide +kernel
theorem dX5_keptPairs_74 : decode cX5_keptPairs 74 = .ok (.istore_n 1, 1) := by decide +kernel
theorem dX5_keptPairs_75 : decode cX5_keptPairs 75 = .ok (.iinc 2 1, 3) := by decide +kernel
theorem dX5_keptPairs_78 : decode cX5_keptPairs 78 = .ok (.goto (-48), 3) := by decide +kernel
theorem dX5_keptPairs_81 : decode cX5_keptPairs 81 = .ok (.iload_n 1, 1) := by decide +kernel
theorem dX5_keptPairs_82 : decode cX5_keptPairs 82 = .ok (.ireturn, 1) := by decide +kernel
theorem dX5_keptIf_0 : decode cX5_keptIf 0 = .ok (.aload_n 0, 1) := by decide +kernel
theorem dX5_keptIf_1 : decode cX5_keptIf 1 = .ok (.invokevirtual 60, 3) := by decide +kernel
theorem dX5_keptIf_4 : decode cX5_keptIf 4 = .ok (.iload_n 2, 1) := by decide +kernel
theorem dX5_keptIf_5 : decode cX5_keptIf 5 = .ok (.ifCond .lt 13, 3) := by decide +kernel
theorem dX5_keptIf_8 : decode cX5_keptIf 8 = .ok (.aload_n 0, 1) := by decide +kernel
theorem dX5_keptIf_9 : decode cX5_keptIf 9 = .ok (.getfield 7, 3) := by decide +kernel
theorem dX5_keptIf_12 : decode cX5_keptIf 12 = .ok (.bipush 52, 2) := by decide +kernel
theorem dX5_keptIf_14 : decode cX5_keptIf 14 = .ok (.iload_n 2, 1) := by decide +kernel
theorem dX5_keptIf_15 : decode cX5_keptIf 15 = .ok (.iadd, 1) := by decide +kernel
theorem dX5_keptIf_16 : decode cX5_keptIf 16 = .ok (.iconst 0, 1) := by decide +kernel
theorem dX5_keptIf_17 : decode cX5_keptIf 17 = .ok (.iastore, 1) := by decide +kernel
theorem dX5_keptIf_18 : decode cX5_keptIf 18 = .ok (.iconst 0, 1) := by decide +kernel
theorem dX5_keptIf_19 : decode cX5_keptIf 19 = .ok (.istore_n 3, 1) := by decide +kernel
theorem dX5_keptIf_20 : decode cX5_keptIf 20 = .ok (.iload_n 3, 1) := by decide +kernel
theorem dX5_keptIf_21 : decode cX5_keptIf 21 = .ok (.iload_n 1, 1) := by decide +kernel
theorem dX5_keptIf_22 : decode cX5_keptIf 22 = .ok (.if_icmp .ge 13, 3) := by decide +kernel
theorem dX5_keptIf_25 : decode cX5_keptIf 25 = .ok (.aload_n 0, 1) := by decide +kernel
theorem dX5_keptIf_26 : decode cX5_keptIf 26 = .ok (.invokevirtual 63, 3) := by decide +kernel
theorem dX5_keptIf_29 : decode cX5_keptIf 29 = .ok (.iinc 3 1, 3) := by decide +kernel
theorem dX5_keptIf_32 : decode cX5_keptIf 32 = .ok (.goto (-12), 3) := by decide +kernel
theorem dX5_keptIf_35 : decode cX5_keptIf 35 = .ok (.aload_n 0, 1) := by decide +kernel
theorem dX5_keptIf_36 : decode cX5_keptIf 36 = .ok (.invokevirtual 66, 3) := by decide +kernel
theorem dX5_keptIf_39 : decode cX5_keptIf 39 = .ok (.istore_n 3, 1) := by decide +kernel
theorem dX5_keptIf_40 : decode cX5_keptIf 40 = .ok (.aload_n 0, 1) := by decide +kernel
theorem dX5_keptIf_41 : decode cX5_keptIf 41 = .ok (.invokevirtual 70, 3) := by decide +kernel
theorem dX5_keptIf_44 : decode cX5_keptIf 44 = .ok (.iload_n 3, 1) := by decide +kernel
theorem dX5_keptIf_45 : decode cX5_keptIf 45 = .ok (.ireturn, 1) := by decide +kernel
theorem dX5_set_0 : decode cX5_set 0 = .ok (.iload_n 1, 1) := by decide +kernel
theorem dX5_set_1 : decode cX5_set 1 = .ok (.iconst 0, 1) := by decide +kernel
theorem dX5_set_2 : decode cX5_set 2 = .ok (.iconst 1, 1) := by decide +kernel
theorem dX5_set_3 : decode cX5_set 3 = .ok (.invokestatic 35, 3) := by decide +kernel
theorem dX5_set_6 : decode cX5_set 6 = .ok (.ifCond .eq 22, 3) := by decide +kernel
theorem dX5_set_9 : decode cX5_set 9 = .ok (.iload_n 2, 1) := by decide +kernel
theorem dX5_set_10 : decode cX5_set 10 = .ok (.iload_n 1, 1) := by decide +kernel
theorem dX5_set_11 : decode cX5_set 11 = .ok (.iload_n 1, 1) := by decide +kernel
theorem dX5_set_12 : decode cX5_set 12 = .ok (.ifCond .ne 8, 3) := by decide +kernel
theorem dX5_set_15 : decode cX5_set 15 = .ok (.bipush 51, 2) := by decide +kernel
theorem dX5_set_17 : decode cX5_set 17 = .ok (.goto 5, 3) := by decide +kernel
theorem dX5_set_20 : decode cX5_set 20 = .ok (.bipush 9, 2) := by decide +kernel
theorem dX5_set_22 : decode cX5_set 22 = .ok (.invokestatic 35, 3) := by decide +kernel
theorem dX5_set_25 : decode cX5_set 25 = .ok (.ifCond .ne 6, 3) := by decide +kernel
theorem dX5_set_28 : decode cX5_set 28 = .ok (.bipush (-2), 2) := by decide +kernel
theorem dX5_set_30 : decode cX5_set 30 = .ok (.ireturn, 1) := by decide +kernel
theorem dX5_set_31 : decode cX5_set 31 = .ok (.aload_n 0, 1) := by decide +kernel
theorem dX5_set_32 : decode cX5_set 32 = .ok (.invokevirtual 47, 3) := by decide +kernel
theorem dX5_set_35 : decode cX5_set 35 = .ok (.aload_n 0, 1) := by decide +kernel
theorem dX5_set_36 : decode cX5_set 36 = .ok (.getfield 7, 3) := by decide +kernel
theorem dX5_set_39 : decode cX5_set 39 = .ok (.sipush 324, 3) := by decide +kernel
theorem dX5_set_42 : decode cX5_set 42 = .ok (.iload_n 1, 1) := by decide +kernel
theorem dX5_set_43 : decode cX5_set 43 = .ok (.iadd, 1) := by decide +kernel
theorem dX5_set_44 : decode cX5_set 44 = .ok (.iaload, 1) := by decide +kernel
theorem dX5_set_45 : decode cX5_set 45 = .ok (.istore_n 3, 1) := by decide +kernel
theorem dX5_set_46 : decode cX5_set 46 = .ok (.aload_n 0, 1) := by decide +kernel
theorem dX5_set_47 : decode cX5_set 47 = .ok (.getfield 7, 3) := by decide +kernel
theorem dX5_set_50 : decode cX5_set 50 = .ok (.sipush 324, 3) := by decide +kernel
theorem dX5_set_53 : decode cX5_set 53 = .ok (.iload_n 1, 1) := by decide +kernel
theorem dX5_set_54 : decode cX5_set 54 = .ok (.iadd, 1) := by decide +kernel
theorem dX5_set_55 : decode cX5_set 55 = .ok (.iload_n 2, 1) := by decide +kernel
theorem dX5_set_56 : decode cX5_set 56 = .ok (.iastore, 1) := by decide +kernel
theorem dX5_set_57 : decode cX5_set 57 = .ok (.iload_n 3, 1) := by decide +kernel
theorem dX5_set_58 : decode cX5_set 58 = .ok (.ireturn, 1) := by decide +kernel
theorem dX5_seed_0 : decode cX5_seed 0 = .ok (.iload_n 1, 1) := by decide +kernel
theorem dX5_seed_1 : decode cX5_seed 1 = .ok (.ifCond .ge 6, 3) := by decide +kernel
theorem dX5_seed_4 : decode cX5_seed 4 = .ok (.bipush (-2), 2) := by decide +kernel
theorem dX5_seed_6 : decode cX5_seed 6 = .ok (.ireturn, 1) := by decide +kernel
theorem dX5_seed_7 : decode cX5_seed 7 = .ok (.aload_n 0, 1) := by decide +kernel
theorem dX5_seed_8 : decode cX5_seed 8 = .ok (.invokevirtual 47, 3) := by decide +kernel
theorem dX5_seed_11 : decode cX5_seed 11 = .ok (.aload_n 0, 1) := by decide +kernel
theorem dX5_seed_12 : decode cX5_seed 12 = .ok (.getfield 7, 3) := by decide +kernel
theorem dX5_seed_15 : decode cX5_seed 15 = .ok (.sipush 326, 3) := by decide +kernel
theorem dX5_seed_18 : decode cX5_seed 18 = .ok (.iaload, 1) := by decide +kernel
theorem dX5_seed_19 : decode cX5_seed 19 = .ok (.istore_n 2, 1) := by decide +kernel
theorem dX5_seed_20 : decode cX5_seed 20 = .ok (.aload_n 0, 1) := by decide +kernel
theorem dX5_seed_21 : decode cX5_seed 21 = .ok (.getfield 7, 3) := by decide +kernel
theorem dX5_seed_24 : decode cX5_seed 24 = .ok (.sipush 326, 3) := by decide +kernel
theorem dX5_seed_27 : decode cX5_seed 27 = .ok (.iload_n 1, 1) := by decide +kernel
theorem dX5_seed_28 : decode cX5_seed 28 = .ok (.iastore, 1) := by decide +kernel
theorem dX5_seed_29 : decode cX5_seed 29 = .ok (.iload_n 2, 1) := by decide +kernel
theorem dX5_seed_30 : decode cX5_seed 30 = .ok (.ireturn, 1) := by decide +kernel
theorem dX5_bend_0 : decode cX5_bend 0 = .ok (.iload_n 1, 1) := by decide +kernel
theorem dX5_bend_1 : decode cX5_bend 1 = .ok (.invokestatic 73, 3) := by decide +kernel
theorem dX5_bend_4 : decode cX5_bend 4 = .ok (.ifCond .ne 5, 3) := by decide +kernel
theorem dX5_bend_7 : decode cX5_bend 7 = .ok (.iconst (-1), 1) := by decide +kernel
theorem dX5_bend_8 : decode cX5_bend 8 = .ok (.ireturn, 1) := by decide +kernel
theorem dX5_bend_9 : decode cX5_bend 9 = .ok (.aload_n 0, 1) := by decide +kernel
theorem dX5_bend_10 : decode cX5_bend 10 = .ok (.invokevirtual 47, 3) := by decide +kernel
theorem dX5_bend_13 : decode cX5_bend 13 = .ok (.aload_n 0, 1) := by decide +kernel
theorem dX5_bend_14 : decode cX5_bend 14 = .ok (.getfield 7, 3) := by decide +kernel
theorem dX5_bend_17 : decode cX5_bend 17 = .ok (.bipush 52, 2) := by decide +kernel
theorem dX5_bend_19 : decode cX5_bend 19 = .ok (.iload_n 1, 1) := by decide +kernel
theorem dX5_bend_20 : decode cX5_bend 20 = .ok (.iadd, 1) := by decide +kernel
theorem dX5_bend_21 : decode cX5_bend 21 = .ok (.iconst 1, 1) := by decide +kernel
theorem dX5_bend_22 : decode cX5_bend 22 = .ok (.aload_n 0, 1) := by decide +kernel
theorem dX5_bend_23 : decode cX5_bend 23 = .ok (.getfield 7, 3) := by decide +kernel
theorem dX5_bend_26 : decode cX5_bend 26 = .ok (.bipush 52, 2) := by decide +kernel
theorem dX5_bend_28 : decode cX5_bend 28 = .ok (.iload_n 1, 1) := by decide +kernel
theorem dX5_bend_29 : decode cX5_bend 29 = .ok (.iadd, 1) := by decide +kernel
theorem dX5_bend_30 : decode cX5_bend 30 = .ok (.iaload, 1) := by decide +kernel
theorem dX5_bend_31 : decode cX5_bend 31 = .ok (.isub, 1) := by decide +kernel
theorem dX5_bend_32 : decode cX5_bend 32 = .ok (.iastore, 1) := by decide +kernel
theorem dX5_bend_33 : decode cX5_bend 33 = .ok (.aload_n 0, 1) := by decide +kernel
theorem dX5_bend_34 : decode cX5_bend 34 = .ok (.invokevirtual 77, 3) := by decide +kernel
theorem dX5_bend_37 : decode cX5_bend 37 = .ok (.ireturn, 1) := by decide +kernel
theorem dX5_read_0 : decode cX5_read 0 = .ok (.aload_n 0, 1) := by decide +kernel
theorem dX5_read_1 : decode cX5_read 1 = .ok (.invokevirtual 80, 3) := by decide +kernel
theorem dX5_read_4 : decode cX5_read 4 = .ok (.ifCond .lt 6, 3) := by decide +kernel
theorem dX5_read_7 : decode cX5_read 7 = .ok (.bipush (-3), 2) := by decide +kernel
theorem dX5_read_9 : decode cX5_read 9 = .ok (.ireturn, 1) := by decide +kernel
theorem dX5_read_10 : decode cX5_read 10 = .ok (.aload_n 0, 1) := by decide +kernel
theorem dX5_read_11 : decode cX5_read 11 = .ok (.invokevirtual 47, 3) := by decide +kernel
theorem dX5_read_14 : decode cX5_read 14 = .ok (.iconst 0, 1) := by decide +kernel
theorem dX5_read_15 : decode cX5_read 15 = .ok (.istore_n 1, 1) := by decide +kernel
theorem dX5_read_16 : decode cX5_read 16 = .ok (.iload_n 1, 1) := by decide +kernel
theorem dX5_read_17 : decode cX5_read 17 = .ok (.aload_n 0, 1) := by decide +kernel
theorem dX5_read_18 : decode cX5_read 18 = .ok (.getfield 83, 3) := by decide +kernel
theorem dX5_read_21 : decode cX5_read 21 = .ok (.if_icmp .ge 54, 3) := by decide +kernel
theorem dX5_read_24 : decode cX5_read 24 = .ok (.bipush 13, 2) := by decide +kernel
theorem dX5_read_26 : decode cX5_read 26 = .ok (.aload_n 0, 1) := by decide +kernel
theorem dX5_read_27 : decode cX5_read 27 = .ok (.getfield 26, 3) := by decide +kernel
theorem dX5_read_30 : decode cX5_read 30 = .ok (.iload_n 1, 1) := by decide +kernel
theorem dX5_read_31 : decode cX5_read 31 = .ok (.iaload, 1) := by decide +kernel
theorem dX5_read_32 : decode cX5_read 32 = .ok (.invokestatic 86, 3) := by decide +kernel
theorem dX5_read_35 : decode cX5_read 35 = .ok (.imul, 1) := by decide +kernel
theorem dX5_read_36 : decode cX5_read 36 = .ok (.aload_n 0, 1) := by decide +kernel
theorem dX5_read_37 : decode cX5_read 37 = .ok (.getfield 26, 3) := by decide +kernel
theorem dX5_read_40 : decode cX5_read 40 = .ok (.iload_n 1, 1) := by decide +kernel
theorem dX5_read_41 : decode cX5_read 41 = .ok (.iconst 1, 1) := by decide +kernel
theorem dX5_read_42 : decode cX5_read 42 = .ok (.iadd, 1) := by decide +kernel
theorem dX5_read_43 : decode cX5_read 43 = .ok (.iaload, 1) := by decide +kernel
theorem dX5_read_44 : decode cX5_read 44 = .ok (.invokestatic 89, 3) := by decide +kernel
theorem dX5_read_47 : decode cX5_read 47 = .ok (.iadd, 1) := by decide +kernel
theorem dX5_read_48 : decode cX5_read 48 = .ok (.istore_n 2, 1) := by decide +kernel
theorem dX5_read_49 : decode cX5_read 49 = .ok (.aload_n 0, 1) := by decide +kernel
theorem dX5_read_50 : decode cX5_read 50 = .ok (.getfield 7, 3) := by decide +kernel
theorem dX5_read_53 : decode cX5_read 53 = .ok (.bipush 52, 2) := by decide +kernel
theorem dX5_read_55 : decode cX5_read 55 = .ok (.iload_n 2, 1) := by decide +kernel
theorem dX5_read_56 : decode cX5_read 56 = .ok (.iadd, 1) := by decide +kernel
theorem dX5_read_57 : decode cX5_read 57 = .ok (.iconst 1, 1) := by decide +kernel
theorem dX5_read_58 : decode cX5_read 58 = .ok (.aload_n 0, 1) := by decide +kernel
theorem dX5_read_59 : decode cX5_read 59 = .ok (.getfield 7, 3) := by decide +kernel
theorem dX5_read_62 : decode cX5_read 62 = .ok (.bipush 52, 2) := by decide +kernel
theorem dX5_read_64 : decode cX5_read 64 = .ok (.iload_n 2, 1) := by decide +kernel
theorem dX5_read_65 : decode cX5_read 65 = .ok (.iadd, 1) := by decide +kernel
theorem dX5_read_66 : decode cX5_read 66 = .ok (.iaload, 1) := by decide +kernel
theorem dX5_read_67 : decode cX5_read 67 = .ok (.isub, 1) := by decide +kernel
theorem dX5_read_68 : decode cX5_read 68 = .ok (.iastore, 1) := by decide +kernel
theorem dX5_read_69 : decode cX5_read 69 = .ok (.iinc 1 3, 3) := by decide +kernel
theorem dX5_read_72 : decode cX5_read 72 = .ok (.goto (-56), 3) := by decide +kernel
theorem dX5_read_75 : decode cX5_read 75 = .ok (.aload_n 0, 1) := by decide +kernel
theorem dX5_read_76 : decode cX5_read 76 = .ok (.iconst 0, 1) := by decide +kernel
theorem dX5_read_77 : decode cX5_read 77 = .ok (.putfield 83, 3) := by decide +kernel
theorem dX5_read_80 : decode cX5_read 80 = .ok (.aload_n 0, 1) := by decide +kernel
theorem dX5_read_81 : decode cX5_read 81 = .ok (.invokevirtual 77, 3) := by decide +kernel
theorem dX5_read_84 : decode cX5_read 84 = .ok (.ireturn, 1) := by decide +kernel
theorem dX5_shuffle_0 : decode cX5_shuffle 0 = .ok (.aload_n 0, 1) := by decide +kernel
theorem dX5_shuffle_1 : decode cX5_shuffle 1 = .ok (.invokevirtual 47, 3) := by decide +kernel
theorem dX5_shuffle_4 : decode cX5_shuffle 4 = .ok (.aload_n 0, 1) := by decide +kernel
theorem dX5_shuffle_5 : decode cX5_shuffle 5 = .ok (.invokevirtual 60, 3) := by decide +kernel
theorem dX5_shuffle_8 : decode cX5_shuffle 8 = .ok (.iconst 0, 1) := by decide +kernel
theorem dX5_shuffle_9 : decode cX5_shuffle 9 = .ok (.istore_n 1, 1) := by decide +kernel
theorem dX5_shuffle_10 : decode cX5_shuffle 10 = .ok (.iload_n 1, 1) := by decide +kernel
theorem dX5_shuffle_11 : decode cX5_shuffle 11 = .ok (.aload_n 0, 1) := by decide +kernel
theorem dX5_shuffle_12 : decode cX5_shuffle 12 = .ok (.getfield 7, 3) := by decide +kernel
theorem dX5_shuffle_15 : decode cX5_shuffle 15 = .ok (.sipush 325, 3) := by decide +kernel
theorem dX5_shuffle_18 : decode cX5_shuffle 18 = .ok (.iaload, 1) := by decide +kernel
theorem dX5_shuffle_19 : decode cX5_shuffle 19 = .ok (.if_icmp .ge 13, 3) := by decide +kernel
theorem dX5_shuffle_22 : decode cX5_shuffle 22 = .ok (.aload_n 0, 1) := by decide +kernel
theorem dX5_shuffle_23 : decode cX5_shuffle 23 = .ok (.invokevirtual 63, 3) := by decide +kernel
theorem dX5_shuffle_26 : decode cX5_shuffle 26 = .ok (.iinc 1 1, 3) := by decide +kernel
theorem dX5_shuffle_29 : decode cX5_shuffle 29 = .ok (.goto (-19), 3) := by decide +kernel
theorem dX5_shuffle_32 : decode cX5_shuffle 32 = .ok (.aload_n 0, 1) := by decide +kernel
theorem dX5_shuffle_33 : decode cX5_shuffle 33 = .ok (.getfield 7, 3) := by decide +kernel
theorem dX5_shuffle_36 : decode cX5_shuffle 36 = .ok (.sipush 328, 3) := by decide +kernel
theorem dX5_shuffle_39 : decode cX5_shuffle 39 = .ok (.aload_n 0, 1) := by decide +kernel
theorem dX5_shuffle_40 : decode cX5_shuffle 40 = .ok (.invokevirtual 66, 3) := by decide +kernel
theorem dX5_shuffle_43 : decode cX5_shuffle 43 = .ok (.iastore, 1) := by decide +kernel
theorem dX5_shuffle_44 : decode cX5_shuffle 44 = .ok (.aload_n 0, 1) := by decide +kernel
theorem dX5_shuffle_45 : decode cX5_shuffle 45 = .ok (.getfield 7, 3) := by decide +kernel
theorem dX5_shuffle_48 : decode cX5_shuffle 48 = .ok (.sipush 327, 3) := by decide +kernel
theorem dX5_shuffle_51 : decode cX5_shuffle 51 = .ok (.aload_n 0, 1) := by decide +kernel
theorem dX5_shuffle_52 : decode cX5_shuffle 52 = .ok (.getfield 7, 3) := by decide +kernel
theorem dX5_shuffle_55 : decode cX5_shuffle 55 = .ok (.sipush 328, 3) := by decide +kernel
theorem dX5_shuffle_58 : decode cX5_shuffle 58 = .ok (.iaload, 1) := by decide +kernel
theorem dX5_shuffle_59 : decode cX5_shuffle 59 = .ok (.aload_n 0, 1) := by decide +kernel
theorem dX5_shuffle_60 : decode cX5_shuffle 60 = .ok (.getfield 7, 3) := by decide +kernel
theorem dX5_shuffle_63 : decode cX5_shuffle 63 = .ok (.sipush 324, 3) := by decide +kernel
theorem dX5_shuffle_66 : decode cX5_shuffle 66 = .ok (.iaload, 1) := by decide +kernel
theorem dX5_shuffle_67 : decode cX5_shuffle 67 = .ok (.if_icmp .gt 7, 3) := by decide +kernel
theorem dX5_shuffle_70 : decode cX5_shuffle 70 = .ok (.iconst 1, 1) := by decide +kernel
theorem dX5_shuffle_71 : decode cX5_shuffle 71 = .ok (.goto 4, 3) := by decide +kernel
theorem dX5_shuffle_74 : decode cX5_shuffle 74 = .ok (.iconst 0, 1) := by decide +kernel
theorem dX5_shuffle_75 : decode cX5_shuffle 75 = .ok (.iastore, 1) := by decide +kernel
theorem dX5_shuffle_76 : decode cX5_shuffle 76 = .ok (.aload_n 0, 1) := by decide +kernel
theorem dX5_shuffle_77 : decode cX5_shuffle 77 = .ok (.getfield 7, 3) := by decide +kernel
theorem dX5_shuffle_80 : decode cX5_shuffle 80 = .ok (.sipush 329, 3) := by decide +kernel
theorem dX5_shuffle_83 : decode cX5_shuffle 83 = .ok (.dup2, 1) := by decide +kernel
theorem dX5_shuffle_84 : decode cX5_shuffle 84 = .ok (.iaload, 1) := by decide +kernel
theorem dX5_shuffle_85 : decode cX5_shuffle 85 = .ok (.iconst 1, 1) := by decide +kernel
theorem dX5_shuffle_86 : decode cX5_shuffle 86 = .ok (.iadd, 1) := by decide +kernel
theorem dX5_shuffle_87 : decode cX5_shuffle 87 = .ok (.iastore, 1) := by decide +kernel
theorem dX5_shuffle_88 : decode cX5_shuffle 88 = .ok (.aload_n 0, 1) := by decide +kernel
theorem dX5_shuffle_89 : decode cX5_shuffle 89 = .ok (.getfield 7, 3) := by decide +kernel
theorem dX5_shuffle_92 : decode cX5_shuffle 92 = .ok (.sipush 330, 3) := by decide +kernel
theorem dX5_shuffle_95 : decode cX5_shuffle 95 = .ok (.dup2, 1) := by decide +kernel
theorem dX5_shuffle_96 : decode cX5_shuffle 96 = .ok (.iaload, 1) := by decide +kernel
theorem dX5_shuffle_97 : decode cX5_shuffle 97 = .ok (.aload_n 0, 1) := by decide +kernel
theorem dX5_shuffle_98 : decode cX5_shuffle 98 = .ok (.getfield 7, 3) := by decide +kernel
theorem dX5_shuffle_101 : decode cX5_shuffle 101 = .ok (.sipush 327, 3) := by decide +kernel
theorem dX5_shuffle_104 : decode cX5_shuffle 104 = .ok (.iaload, 1) := by decide +kernel
theorem dX5_shuffle_105 : decode cX5_shuffle 105 = .ok (.iadd, 1) := by decide +kernel
theorem dX5_shuffle_106 : decode cX5_shuffle 106 = .ok (.iastore, 1) := by decide +kernel
theorem dX5_shuffle_107 : decode cX5_shuffle 107 = .ok (.aload_n 0, 1) := by decide +kernel
theorem dX5_shuffle_108 : decode cX5_shuffle 108 = .ok (.getfield 7, 3) := by decide +kernel
theorem dX5_shuffle_111 : decode cX5_shuffle 111 = .ok (.sipush 328, 3) := by decide +kernel
theorem dX5_shuffle_114 : decode cX5_shuffle 114 = .ok (.iaload, 1) := by decide +kernel
theorem dX5_shuffle_115 : decode cX5_shuffle 115 = .ok (.ireturn, 1) := by decide +kernel
theorem dX5_cut_0 : decode cX5_cut 0 = .ok (.iload_n 1, 1) := by decide +kernel
theorem dX5_cut_1 : decode cX5_cut 1 = .ok (.iconst 1, 1) := by decide +kernel
theorem dX5_cut_2 : decode cX5_cut 2 = .ok (.bipush 51, 2) := by decide +kernel
theorem dX5_cut_4 : decode cX5_cut 4 = .ok (.invokestatic 35, 3) := by decide +kernel
theorem dX5_cut_7 : decode cX5_cut 7 = .ok (.ifCond .ne 6, 3) := by decide +kernel
theorem dX5_cut_10 : decode cX5_cut 10 = .ok (.bipush (-2), 2) := by decide +kernel
theorem dX5_cut_12 : decode cX5_cut 12 = .ok (.ireturn, 1) := by decide +kernel
theorem dX5_cut_13 : decode cX5_cut 13 = .ok (.aload_n 0, 1) := by decide +kernel
theorem dX5_cut_14 : decode cX5_cut 14 = .ok (.invokevirtual 47, 3) := by decide +kernel
theorem dX5_cut_17 : decode cX5_cut 17 = .ok (.aload_n 0, 1) := by decide +kernel
theorem dX5_cut_18 : decode cX5_cut 18 = .ok (.invokevirtual 60, 3) := by decide +kernel
theorem dX5_cut_21 : decode cX5_cut 21 = .ok (.iconst 0, 1) := by decide +kernel
theorem dX5_cut_22 : decode cX5_cut 22 = .ok (.istore_n 2, 1) := by decide +kernel
theorem dX5_cut_23 : decode cX5_cut 23 = .ok (.iload_n 2, 1) := by decide +kernel
theorem dX5_cut_24 : decode cX5_cut 24 = .ok (.bipush 52, 2) := by decide +kernel
theorem dX5_cut_26 : decode cX5_cut 26 = .ok (.if_icmp .ge 26, 3) := by decide +kernel
theorem dX5_cut_29 : decode cX5_cut 29 = .ok (.aload_n 0, 1) := by decide +kernel
theorem dX5_cut_30 : decode cX5_cut 30 = .ok (.getfield 7, 3) := by decide +kernel
theorem dX5_cut_33 : decode cX5_cut 33 = .ok (.iload_n 2, 1) := by decide +kernel
theorem dX5_cut_34 : decode cX5_cut 34 = .ok (.aload_n 0, 1) := by decide +kernel
theorem dX5_cut_35 : decode cX5_cut 35 = .ok (.getfield 13, 3) := by decide +kernel
theorem dX5_cut_38 : decode cX5_cut 38 = .ok (.iload_n 2, 1) := by decide +kernel
theorem dX5_cut_39 : decode cX5_cut 39 = .ok (.iload_n 1, 1) := by decide +kernel
theorem dX5_cut_40 : decode cX5_cut 40 = .ok (.iadd, 1) := by decide +kernel
theorem dX5_cut_41 : decode cX5_cut 41 = .ok (.bipush 52, 2) := by decide +kernel
theorem dX5_cut_43 : decode cX5_cut 43 = .ok (.irem, 1) := by decide +kernel
theorem dX5_cut_44 : decode cX5_cut 44 = .ok (.iaload, 1) := by decide +kernel
theorem dX5_cut_45 : decode cX5_cut 45 = .ok (.iastore, 1) := by decide +kernel
theorem dX5_cut_46 : decode cX5_cut 46 = .ok (.iinc 2 1, 3) := by decide +kernel
theorem dX5_cut_49 : decode cX5_cut 49 = .ok (.goto (-26), 3) := by decide +kernel
theorem dX5_cut_52 : decode cX5_cut 52 = .ok (.aload_n 0, 1) := by decide +kernel
theorem dX5_cut_53 : decode cX5_cut 53 = .ok (.getfield 7, 3) := by decide +kernel
theorem dX5_cut_56 : decode cX5_cut 56 = .ok (.iconst 0, 1) := by decide +kernel
theorem dX5_cut_57 : decode cX5_cut 57 = .ok (.iaload, 1) := by decide +kernel
theorem dX5_cut_58 : decode cX5_cut 58 = .ok (.ireturn, 1) := by decide +kernel
theorem dX5_sort_0 : decode cX5_sort 0 = .ok (.aload_n 0, 1) := by decide +kernel
theorem dX5_sort_1 : decode cX5_sort 1 = .ok (.invokevirtual 47, 3) := by decide +kernel
theorem dX5_sort_4 : decode cX5_sort 4 = .ok (.iconst 0, 1) := by decide +kernel
theorem dX5_sort_5 : decode cX5_sort 5 = .ok (.istore_n 1, 1) := by decide +kernel
theorem dX5_sort_6 : decode cX5_sort 6 = .ok (.iconst 0, 1) := by decide +kernel
theorem dX5_sort_7 : decode cX5_sort 7 = .ok (.istore_n 2, 1) := by decide +kernel
theorem dX5_sort_8 : decode cX5_sort 8 = .ok (.iload_n 2, 1) := by decide +kernel
theorem dX5_sort_9 : decode cX5_sort 9 = .ok (.bipush 52, 2) := by decide +kernel
theorem dX5_sort_11 : decode cX5_sort 11 = .ok (.if_icmp .ge 34, 3) := by decide +kernel
theorem dX5_sort_14 : decode cX5_sort 14 = .ok (.iload_n 1, 1) := by decide +kernel
theorem dX5_sort_15 : decode cX5_sort 15 = .ok (.aload_n 0, 1) := by decide +kernel
theorem dX5_sort_16 : decode cX5_sort 16 = .ok (.getfield 7, 3) := by decide +kernel
theorem dX5_sort_19 : decode cX5_sort 19 = .ok (.iload_n 2, 1) := by decide +kernel
theorem dX5_sort_20 : decode cX5_sort 20 = .ok (.iaload, 1) := by decide +kernel
theorem dX5_sort_21 : decode cX5_sort 21 = .ok (.iload_n 2, 1) := by decide +kernel
theorem dX5_sort_22 : decode cX5_sort 22 = .ok (.if_icmp .ne 7, 3) := by decide +kernel
theorem dX5_sort_25 : decode cX5_sort 25 = .ok (.iconst 0, 1) := by decide +kernel
theorem dX5_sort_26 : decode cX5_sort 26 = .ok (.goto 4, 3) := by decide +kernel
theorem dX5_sort_29 : decode cX5_sort 29 = .ok (.iconst 1, 1) := by decide +kernel
theorem dX5_sort_30 : decode cX5_sort 30 = .ok (.iadd, 1) := by decide +kernel
theorem dX5_sort_31 : decode cX5_sort 31 = .ok (.istore_n 1, 1) := by decide +kernel
theorem dX5_sort_32 : decode cX5_sort 32 = .ok (.aload_n 0, 1) := by decide +kernel
theorem dX5_sort_33 : decode cX5_sort 33 = .ok (.getfield 7, 3) := by decide +kernel
theorem dX5_sort_36 : decode cX5_sort 36 = .ok (.iload_n 2, 1) := by decide +kernel
theorem dX5_sort_37 : decode cX5_sort 37 = .ok (.iload_n 2, 1) := by decide +kernel
theorem dX5_sort_38 : decode cX5_sort 38 = .ok (.iastore, 1) := by decide +kernel
theorem dX5_sort_39 : decode cX5_sort 39 = .ok (.iinc 2 1, 3) := by decide +kernel
theorem dX5_sort_42 : decode cX5_sort 42 = .ok (.goto (-34), 3) := by decide +kernel
theorem dX5_sort_45 : decode cX5_sort 45 = .ok (.aload_n 0, 1) := by decide +kernel
theorem dX5_sort_46 : decode cX5_sort 46 = .ok (.getfield 7, 3) := by decide +kernel
theorem dX5_sort_49 : decode cX5_sort 49 = .ok (.sipush 327, 3) := by decide +kernel
theorem dX5_sort_52 : decode cX5_sort 52 = .ok (.iconst 0, 1) := by decide +kernel
theorem dX5_sort_53 : decode cX5_sort 53 = .ok (.iastore, 1) := by decide +kernel
theorem dX5_sort_54 : decode cX5_sort 54 = .ok (.iload_n 1, 1) := by decide +kernel
theorem dX5_sort_55 : decode cX5_sort 55 = .ok (.ireturn, 1) := by decide +kernel
theorem dX5_holderOf_0 : decode cX5_holderOf 0 = .ok (.aload_n 0, 1) := by decide +kernel
theorem dX5_holderOf_1 : decode cX5_holderOf 1 = .ok (.getfield 7, 3) := by decide +kernel
theorem dX5_holderOf_4 : decode cX5_holderOf 4 = .ok (.bipush 104, 2) := by decide +kernel
theorem dX5_holderOf_6 : decode cX5_holderOf 6 = .ok (.bipush 52, 2) := by decide +kernel
theorem dX5_holderOf_8 : decode cX5_holderOf 8 = .ok (.iload_n 1, 1) := by decide +kernel
theorem dX5_holderOf_9 : decode cX5_holderOf 9 = .ok (.imul, 1) := by decide +kernel
theorem dX5_holderOf_10 : decode cX5_holderOf 10 = .ok (.iadd, 1) := by decide +kernel
theorem dX5_holderOf_11 : decode cX5_holderOf 11 = .ok (.iload_n 2, 1) := by decide +kernel
theorem dX5_holderOf_12 : decode cX5_holderOf 12 = .ok (.iadd, 1) := by decide +kernel
theorem dX5_holderOf_13 : decode cX5_holderOf 13 = .ok (.iaload, 1) := by decide +kernel
theorem dX5_holderOf_14 : decode cX5_holderOf 14 = .ok (.ireturn, 1) := by decide +kernel
theorem dX5_pointsOf_0 : decode cX5_pointsOf 0 = .ok (.iconst 0, 1) := by decide +kernel
theorem dX5_pointsOf_1 : decode cX5_pointsOf 1 = .ok (.istore_n 3, 1) := by decide +kernel
theorem dX5_pointsOf_2 : decode cX5_pointsOf 2 = .ok (.iconst 0, 1) := by decide +kernel
theorem dX5_pointsOf_3 : decode cX5_pointsOf 3 = .ok (.istore 4, 2) := by decide +kernel
theorem dX5_pointsOf_5 : decode cX5_pointsOf 5 = .ok (.iload 4, 2) := by decide +kernel
theorem dX5_pointsOf_7 : decode cX5_pointsOf 7 = .ok (.bipush 52, 2) := by decide +kernel
theorem dX5_pointsOf_9 : decode cX5_pointsOf 9 = .ok (.if_icmp .ge 44, 3) := by decide +kernel
theorem dX5_pointsOf_12 : decode cX5_pointsOf 12 = .ok (.iload 4, 2) := by decide +kernel
theorem dX5_pointsOf_14 : decode cX5_pointsOf 14 = .ok (.bipush 13, 2) := by decide +kernel
theorem dX5_pointsOf_16 : decode cX5_pointsOf 16 = .ok (.irem, 1) := by decide +kernel
theorem dX5_pointsOf_17 : decode cX5_pointsOf 17 = .ok (.bipush 8, 2) := by decide +kernel
theorem dX5_pointsOf_19 : decode cX5_pointsOf 19 = .ok (.isub, 1) := by decide +kernel
theorem dX5_pointsOf_20 : decode cX5_pointsOf 20 = .ok (.istore 5, 2) := by decide +kernel
theorem dX5_pointsOf_22 : decode cX5_pointsOf 22 = .ok (.iload_n 3, 1) := by decide +kernel
theorem dX5_pointsOf_23 : decode cX5_pointsOf 23 = .ok (.aload_n 0, 1) := by decide +kernel
theorem dX5_pointsOf_24 : decode cX5_pointsOf 24 = .ok (.iload_n 1, 1) := by decide +kernel
theorem dX5_pointsOf_25 : decode cX5_pointsOf 25 = .ok (.iload 4, 2) := by decide +kernel
theorem dX5_pointsOf_27 : decode cX5_pointsOf 27 = .ok (.invokevirtual 92, 3) := by decide +kernel
theorem dX5_pointsOf_30 : decode cX5_pointsOf 30 = .ok (.iload_n 2, 1) := by decide +kernel
theorem dX5_pointsOf_31 : decode cX5_pointsOf 31 = .ok (.if_icmp .ne 13, 3) := by decide +kernel
theorem dX5_pointsOf_34 : decode cX5_pointsOf 34 = .ok (.iload 5, 2) := by decide +kernel
theorem dX5_pointsOf_36 : decode cX5_pointsOf 36 = .ok (.ifCond .le 8, 3) := by decide +kernel
theorem dX5_pointsOf_39 : decode cX5_pointsOf 39 = .ok (.iload 5, 2) := by decide +kernel
theorem dX5_pointsOf_41 : decode cX5_pointsOf 41 = .ok (.goto 4, 3) := by decide +kernel
theorem dX5_pointsOf_44 : decode cX5_pointsOf 44 = .ok (.iconst 0, 1) := by decide +kernel
theorem dX5_pointsOf_45 : decode cX5_pointsOf 45 = .ok (.iadd, 1) := by decide +kernel
theorem dX5_pointsOf_46 : decode cX5_pointsOf 46 = .ok (.istore_n 3, 1) := by decide +kernel
theorem dX5_pointsOf_47 : decode cX5_pointsOf 47 = .ok (.iinc 4 1, 3) := by decide +kernel
theorem dX5_pointsOf_50 : decode cX5_pointsOf 50 = .ok (.goto (-45), 3) := by decide +kernel
theorem dX5_pointsOf_53 : decode cX5_pointsOf 53 = .ok (.iload_n 3, 1) := by decide +kernel
theorem dX5_pointsOf_54 : decode cX5_pointsOf 54 = .ok (.ireturn, 1) := by decide +kernel
theorem dX5_deal_0 : decode cX5_deal 0 = .ok (.iload_n 1, 1) := by decide +kernel
theorem dX5_deal_1 : decode cX5_deal 1 = .ok (.invokestatic 96, 3) := by decide +kernel
theorem dX5_deal_4 : decode cX5_deal 4 = .ok (.ifCond .ne 5, 3) := by decide +kernel
theorem dX5_deal_7 : decode cX5_deal 7 = .ok (.iconst (-1), 1) := by decide +kernel
theorem dX5_deal_8 : decode cX5_deal 8 = .ok (.ireturn, 1) := by decide +kernel
theorem dX5_deal_9 : decode cX5_deal 9 = .ok (.aload_n 0, 1) := by decide +kernel
theorem dX5_deal_10 : decode cX5_deal 10 = .ok (.getfield 7, 3) := by decide +kernel
theorem dX5_deal_13 : decode cX5_deal 13 = .ok (.sipush 316, 3) := by decide +kernel
theorem dX5_deal_16 : decode cX5_deal 16 = .ok (.iload_n 1, 1) := by decide +kernel
theorem dX5_deal_17 : decode cX5_deal 17 = .ok (.iadd, 1) := by decide +kernel
theorem dX5_deal_18 : decode cX5_deal 18 = .ok (.iaload, 1) := by decide +kernel
theorem dX5_deal_19 : decode cX5_deal 19 = .ok (.iconst 1, 1) := by decide +kernel
theorem dX5_deal_20 : decode cX5_deal 20 = .ok (.if_icmp .eq 14, 3) := by decide +kernel
theorem dX5_deal_23 : decode cX5_deal 23 = .ok (.aload_n 0, 1) := by decide +kernel
theorem dX5_deal_24 : decode cX5_deal 24 = .ok (.getfield 7, 3) := by decide +kernel
theorem dX5_deal_27 : decode cX5_deal 27 = .ok (.sipush 327, 3) := by decide +kernel
theorem dX5_deal_30 : decode cX5_deal 30 = .ok (.iaload, 1) := by decide +kernel
theorem dX5_deal_31 : decode cX5_deal 31 = .ok (.ifCond .ne 6, 3) := by decide +kernel
theorem dX5_deal_34 : decode cX5_deal 34 = .ok (.bipush (-5), 2) := by decide +kernel
theorem dX5_deal_36 : decode cX5_deal 36 = .ok (.ireturn, 1) := by decide +kernel
theorem dX5_deal_37 : decode cX5_deal 37 = .ok (.aload_n 0, 1) := by decide +kernel
theorem dX5_deal_38 : decode cX5_deal 38 = .ok (.invokevirtual 47, 3) := by decide +kernel
theorem dX5_deal_41 : decode cX5_deal 41 = .ok (.iconst 0, 1) := by decide +kernel
theorem dX5_deal_42 : decode cX5_deal 42 = .ok (.istore_n 2, 1) := by decide +kernel
theorem dX5_deal_43 : decode cX5_deal 43 = .ok (.iload_n 2, 1) := by decide +kernel
theorem dX5_deal_44 : decode cX5_deal 44 = .ok (.bipush 52, 2) := by decide +kernel
theorem dX5_deal_46 : decode cX5_deal 46 = .ok (.if_icmp .ge 31, 3) := by decide +kernel
theorem dX5_deal_49 : decode cX5_deal 49 = .ok (.aload_n 0, 1) := by decide +kernel
theorem dX5_deal_50 : decode cX5_deal 50 = .ok (.getfield 7, 3) := by decide +kernel
theorem dX5_deal_53 : decode cX5_deal 53 = .ok (.bipush 104, 2) := by decide +kernel
theorem dX5_deal_55 : decode cX5_deal 55 = .ok (.bipush 52, 2) := by decide +kernel
theorem dX5_deal_57 : decode cX5_deal 57 = .ok (.iload_n 1, 1) := by decide +kernel
theorem dX5_deal_58 : decode cX5_deal 58 = .ok (.imul, 1) := by decide +kernel
theorem dX5_deal_59 : decode cX5_deal 59 = .ok (.iadd, 1) := by decide +kernel
theorem dX5_deal_60 : decode cX5_deal 60 = .ok (.aload_n 0, 1) := by decide +kernel
theorem dX5_deal_61 : decode cX5_deal 61 = .ok (.getfield 7, 3) := by decide +kernel
theorem dX5_deal_64 : decode cX5_deal 64 = .ok (.iload_n 2, 1) := by decide +kernel
theorem dX5_deal_65 : decode cX5_deal 65 = .ok (.iaload, 1) := by decide +kernel
theorem dX5_deal_66 : decode cX5_deal 66 = .ok (.iadd, 1) := by decide +kernel
theorem dX5_deal_67 : decode cX5_deal 67 = .ok (.iload_n 2, 1) := by decide +kernel
theorem dX5_deal_68 : decode cX5_deal 68 = .ok (.iconst 4, 1) := by decide +kernel
theorem dX5_deal_69 : decode cX5_deal 69 = .ok (.irem, 1) := by decide +kernel
theorem dX5_deal_70 : decode cX5_deal 70 = .ok (.iastore, 1) := by decide +kernel
theorem dX5_deal_71 : decode cX5_deal 71 = .ok (.iinc 2 1, 3) := by decide +kernel
theorem dX5_deal_74 : decode cX5_deal 74 = .ok (.goto (-31), 3) := by decide +kernel
theorem dX5_deal_77 : decode cX5_deal 77 = .ok (.aload_n 0, 1) := by decide +kernel
theorem dX5_deal_78 : decode cX5_deal 78 = .ok (.getfield 7, 3) := by decide +kernel
theorem dX5_deal_81 : decode cX5_deal 81 = .ok (.sipush 312, 3) := by decide +kernel
theorem dX5_deal_84 : decode cX5_deal 84 = .ok (.iload_n 1, 1) := by decide +kernel
theorem dX5_deal_85 : decode cX5_deal 85 = .ok (.iadd, 1) := by decide +kernel
theorem dX5_deal_86 : decode cX5_deal 86 = .ok (.iconst 1, 1) := by decide +kernel
theorem dX5_deal_87 : decode cX5_deal 87 = .ok (.iastore, 1) := by decide +kernel
theorem dX5_deal_88 : decode cX5_deal 88 = .ok (.aload_n 0, 1) := by decide +kernel
theorem dX5_deal_89 : decode cX5_deal 89 = .ok (.getfield 7, 3) := by decide +kernel
theorem dX5_deal_92 : decode cX5_deal 92 = .ok (.sipush 320, 3) := by decide +kernel
theorem dX5_deal_95 : decode cX5_deal 95 = .ok (.iload_n 1, 1) := by decide +kernel
theorem dX5_deal_96 : decode cX5_deal 96 = .ok (.iadd, 1) := by decide +kernel
theorem dX5_deal_97 : decode cX5_deal 97 = .ok (.iconst 0, 1) := by decide +kernel
theorem dX5_deal_98 : decode cX5_deal 98 = .ok (.iastore, 1) := by decide +kernel
theorem dX5_deal_99 : decode cX5_deal 99 = .ok (.aload_n 0, 1) := by decide +kernel
theorem dX5_deal_100 : decode cX5_deal 100 = .ok (.getfield 7, 3) := by decide +kernel
theorem dX5_deal_103 : decode cX5_deal 103 = .ok (.sipush 327, 3) := by decide +kernel
theorem dX5_deal_106 : decode cX5_deal 106 = .ok (.iconst 0, 1) := by decide +kernel
theorem dX5_deal_107 : decode cX5_deal 107 = .ok (.iastore, 1) := by decide +kernel
theorem dX5_deal_108 : decode cX5_deal 108 = .ok (.aload_n 0, 1) := by decide +kernel
theorem dX5_deal_109 : decode cX5_deal 109 = .ok (.getfield 7, 3) := by decide +kernel
theorem dX5_deal_112 : decode cX5_deal 112 = .ok (.sipush 331, 3) := by decide +kernel
theorem dX5_deal_115 : decode cX5_deal 115 = .ok (.dup2, 1) := by decide +kernel
theorem dX5_deal_116 : decode cX5_deal 116 = .ok (.iaload, 1) := by decide +kernel
theorem dX5_deal_117 : decode cX5_deal 117 = .ok (.iconst 1, 1) := by decide +kernel
theorem dX5_deal_118 : decode cX5_deal 118 = .ok (.iadd, 1) := by decide +kernel
theorem dX5_deal_119 : decode cX5_deal 119 = .ok (.iastore, 1) := by decide +kernel
theorem dX5_deal_120 : decode cX5_deal 120 = .ok (.aload_n 0, 1) := by decide +kernel
theorem dX5_deal_121 : decode cX5_deal 121 = .ok (.iload_n 1, 1) := by decide +kernel
theorem dX5_deal_122 : decode cX5_deal 122 = .ok (.iconst 0, 1) := by decide +kernel
theorem dX5_deal_123 : decode cX5_deal 123 = .ok (.invokevirtual 99, 3) := by decide +kernel
theorem dX5_deal_126 : decode cX5_deal 126 = .ok (.ireturn, 1) := by decide +kernel
theorem dX5_seal_0 : decode cX5_seal 0 = .ok (.iload_n 1, 1) := by decide +kernel
theorem dX5_seal_1 : decode cX5_seal 1 = .ok (.invokestatic 96, 3) := by decide +kernel
theorem dX5_seal_4 : decode cX5_seal 4 = .ok (.ifCond .ne 5, 3) := by decide +kernel
theorem dX5_seal_7 : decode cX5_seal 7 = .ok (.iconst (-1), 1) := by decide +kernel
theorem dX5_seal_8 : decode cX5_seal 8 = .ok (.ireturn, 1) := by decide +kernel
theorem dX5_seal_9 : decode cX5_seal 9 = .ok (.aload_n 0, 1) := by decide +kernel
theorem dX5_seal_10 : decode cX5_seal 10 = .ok (.getfield 7, 3) := by decide +kernel
theorem dX5_seal_13 : decode cX5_seal 13 = .ok (.sipush 312, 3) := by decide +kernel
theorem dX5_seal_16 : decode cX5_seal 16 = .ok (.iload_n 1, 1) := by decide +kernel
theorem dX5_seal_17 : decode cX5_seal 17 = .ok (.iadd, 1) := by decide +kernel
theorem dX5_seal_18 : decode cX5_seal 18 = .ok (.iaload, 1) := by decide +kernel
theorem dX5_seal_19 : decode cX5_seal 19 = .ok (.ifCond .eq 17, 3) := by decide +kernel
theorem dX5_seal_22 : decode cX5_seal 22 = .ok (.aload_n 0, 1) := by decide +kernel
theorem dX5_seal_23 : decode cX5_seal 23 = .ok (.getfield 7, 3) := by decide +kernel
theorem dX5_seal_26 : decode cX5_seal 26 = .ok (.sipush 316, 3) := by decide +kernel
theorem dX5_seal_29 : decode cX5_seal 29 = .ok (.iload_n 1, 1) := by decide +kernel
theorem dX5_seal_30 : decode cX5_seal 30 = .ok (.iadd, 1) := by decide +kernel
theorem dX5_seal_31 : decode cX5_seal 31 = .ok (.iaload, 1) := by decide +kernel
theorem dX5_seal_32 : decode cX5_seal 32 = .ok (.iconst 1, 1) := by decide +kernel
theorem dX5_seal_33 : decode cX5_seal 33 = .ok (.if_icmp .ne 6, 3) := by decide +kernel
theorem dX5_seal_36 : decode cX5_seal 36 = .ok (.bipush (-5), 2) := by decide +kernel
theorem dX5_seal_38 : decode cX5_seal 38 = .ok (.ireturn, 1) := by decide +kernel
theorem dX5_seal_39 : decode cX5_seal 39 = .ok (.aload_n 0, 1) := by decide +kernel
theorem dX5_seal_40 : decode cX5_seal 40 = .ok (.invokevirtual 47, 3) := by decide +kernel
theorem dX5_seal_43 : decode cX5_seal 43 = .ok (.aload_n 0, 1) := by decide +kernel
theorem dX5_seal_44 : decode cX5_seal 44 = .ok (.getfield 7, 3) := by decide +kernel
theorem dX5_seal_47 : decode cX5_seal 47 = .ok (.sipush 316, 3) := by decide +kernel
theorem dX5_seal_50 : decode cX5_seal 50 = .ok (.iload_n 1, 1) := by decide +kernel
theorem dX5_seal_51 : decode cX5_seal 51 = .ok (.iadd, 1) := by decide +kernel
theorem dX5_seal_52 : decode cX5_seal 52 = .ok (.iconst 1, 1) := by decide +kernel
theorem dX5_seal_53 : decode cX5_seal 53 = .ok (.iastore, 1) := by decide +kernel
theorem dX5_seal_54 : decode cX5_seal 54 = .ok (.aload_n 0, 1) := by decide +kernel
theorem dX5_seal_55 : decode cX5_seal 55 = .ok (.sipush 316, 3) := by decide +kernel
theorem dX5_seal_58 : decode cX5_seal 58 = .ok (.invokevirtual 43, 3) := by decide +kernel
theorem dX5_seal_61 : decode cX5_seal 61 = .ok (.ireturn, 1) := by decide +kernel
theorem dX5_open_0 : decode cX5_open 0 = .ok (.iload_n 1, 1) := by decide +kernel
theorem dX5_open_1 : decode cX5_open 1 = .ok (.invokestatic 96, 3) := by decide +kernel
theorem dX5_open_4 : decode cX5_open 4 = .ok (.ifCond .ne 5, 3) := by decide +kernel
theorem dX5_open_7 : decode cX5_open 7 = .ok (.iconst (-1), 1) := by decide +kernel
theorem dX5_open_8 : decode cX5_open 8 = .ok (.ireturn, 1) := by decide +kernel
theorem dX5_open_9 : decode cX5_open 9 = .ok (.aload_n 0, 1) := by decide +kernel
theorem dX5_open_10 : decode cX5_open 10 = .ok (.getfield 7, 3) := by decide +kernel
theorem dX5_open_13 : decode cX5_open 13 = .ok (.sipush 316, 3) := by decide +kernel
theorem dX5_open_16 : decode cX5_open 16 = .ok (.iload_n 1, 1) := by decide +kernel
theorem dX5_open_17 : decode cX5_open 17 = .ok (.iadd, 1) := by decide +kernel
theorem dX5_open_18 : decode cX5_open 18 = .ok (.iaload, 1) := by decide +kernel
theorem dX5_open_19 : decode cX5_open 19 = .ok (.ifCond .ne 6, 3) := by decide +kernel
theorem dX5_open_22 : decode cX5_open 22 = .ok (.bipush (-5), 2) := by decide +kernel
theorem dX5_open_24 : decode cX5_open 24 = .ok (.ireturn, 1) := by decide +kernel
theorem dX5_open_25 : decode cX5_open 25 = .ok (.aload_n 0, 1) := by decide +kernel
theorem dX5_open_26 : decode cX5_open 26 = .ok (.invokevirtual 47, 3) := by decide +kernel
theorem dX5_open_29 : decode cX5_open 29 = .ok (.aload_n 0, 1) := by decide +kernel
theorem dX5_open_30 : decode cX5_open 30 = .ok (.getfield 7, 3) := by decide +kernel
theorem dX5_open_33 : decode cX5_open 33 = .ok (.sipush 316, 3) := by decide +kernel
theorem dX5_open_36 : decode cX5_open 36 = .ok (.iload_n 1, 1) := by decide +kernel
theorem dX5_open_37 : decode cX5_open 37 = .ok (.iadd, 1) := by decide +kernel
theorem dX5_open_38 : decode cX5_open 38 = .ok (.iconst 0, 1) := by decide +kernel
theorem dX5_open_39 : decode cX5_open 39 = .ok (.iastore, 1) := by decide +kernel
theorem dX5_open_40 : decode cX5_open 40 = .ok (.aload_n 0, 1) := by decide +kernel
theorem dX5_open_41 : decode cX5_open 41 = .ok (.getfield 7, 3) := by decide +kernel
theorem dX5_open_44 : decode cX5_open 44 = .ok (.sipush 320, 3) := by decide +kernel
theorem dX5_open_47 : decode cX5_open 47 = .ok (.iload_n 1, 1) := by decide +kernel
theorem dX5_open_48 : decode cX5_open 48 = .ok (.iadd, 1) := by decide +kernel
theorem dX5_open_49 : decode cX5_open 49 = .ok (.dup2, 1) := by decide +kernel
theorem dX5_open_50 : decode cX5_open 50 = .ok (.iaload, 1) := by decide +kernel
theorem dX5_open_51 : decode cX5_open 51 = .ok (.iconst 1, 1) := by decide +kernel
theorem dX5_open_52 : decode cX5_open 52 = .ok (.iadd, 1) := by decide +kernel
theorem dX5_open_53 : decode cX5_open 53 = .ok (.iastore, 1) := by decide +kernel
theorem dX5_open_54 : decode cX5_open 54 = .ok (.aload_n 0, 1) := by decide +kernel
theorem dX5_open_55 : decode cX5_open 55 = .ok (.getfield 7, 3) := by decide +kernel
theorem dX5_open_58 : decode cX5_open 58 = .ok (.sipush 332, 3) := by decide +kernel
theorem dX5_open_61 : decode cX5_open 61 = .ok (.dup2, 1) := by decide +kernel
theorem dX5_open_62 : decode cX5_open 62 = .ok (.iaload, 1) := by decide +kernel
theorem dX5_open_63 : decode cX5_open 63 = .ok (.iconst 1, 1) := by decide +kernel
theorem dX5_open_64 : decode cX5_open 64 = .ok (.iadd, 1) := by decide +kernel
theorem dX5_open_65 : decode cX5_open 65 = .ok (.iastore, 1) := by decide +kernel
theorem dX5_open_66 : decode cX5_open 66 = .ok (.aload_n 0, 1) := by decide +kernel
theorem dX5_open_67 : decode cX5_open 67 = .ok (.getfield 7, 3) := by decide +kernel
theorem dX5_open_70 : decode cX5_open 70 = .ok (.sipush 320, 3) := by decide +kernel
theorem dX5_open_73 : decode cX5_open 73 = .ok (.iload_n 1, 1) := by decide +kernel
theorem dX5_open_74 : decode cX5_open 74 = .ok (.iadd, 1) := by decide +kernel
theorem dX5_open_75 : decode cX5_open 75 = .ok (.iaload, 1) := by decide +kernel
theorem dX5_open_76 : decode cX5_open 76 = .ok (.ireturn, 1) := by decide +kernel
theorem dX5_card_0 : decode cX5_card 0 = .ok (.iload_n 1, 1) := by decide +kernel
theorem dX5_card_1 : decode cX5_card 1 = .ok (.invokestatic 73, 3) := by decide +kernel
theorem dX5_card_4 : decode cX5_card 4 = .ok (.ifCond .eq 12, 3) := by decide +kernel
theorem dX5_card_7 : decode cX5_card 7 = .ok (.aload_n 0, 1) := by decide +kernel
theorem dX5_card_8 : decode cX5_card 8 = .ok (.getfield 7, 3) := by decide +kernel
theorem dX5_card_11 : decode cX5_card 11 = .ok (.iload_n 1, 1) := by decide +kernel
theorem dX5_card_12 : decode cX5_card 12 = .ok (.iaload, 1) := by decide +kernel
theorem dX5_card_13 : decode cX5_card 13 = .ok (.goto 4, 3) := by decide +kernel
theorem dX5_card_16 : decode cX5_card 16 = .ok (.iconst (-1), 1) := by decide +kernel
theorem dX5_card_17 : decode cX5_card 17 = .ok (.ireturn, 1) := by decide +kernel
theorem dX5_placeOf_0 : decode cX5_placeOf 0 = .ok (.iconst (-1), 1) := by decide +kernel
theorem dX5_placeOf_1 : decode cX5_placeOf 1 = .ok (.istore_n 2, 1) := by decide +kernel
theorem dX5_placeOf_2 : decode cX5_placeOf 2 = .ok (.iconst 0, 1) := by decide +kernel
theorem dX5_placeOf_3 : decode cX5_placeOf 3 = .ok (.istore_n 3, 1) := by decide +kernel
theorem dX5_placeOf_4 : decode cX5_placeOf 4 = .ok (.iload_n 3, 1) := by decide +kernel
theorem dX5_placeOf_5 : decode cX5_placeOf 5 = .ok (.bipush 52, 2) := by decide +kernel
theorem dX5_placeOf_7 : decode cX5_placeOf 7 = .ok (.if_icmp .ge 25, 3) := by decide +kernel
theorem dX5_placeOf_10 : decode cX5_placeOf 10 = .ok (.aload_n 0, 1) := by decide +kernel
theorem dX5_placeOf_11 : decode cX5_placeOf 11 = .ok (.getfield 7, 3) := by decide +kernel
theorem dX5_placeOf_14 : decode cX5_placeOf 14 = .ok (.iload_n 3, 1) := by decide +kernel
theorem dX5_placeOf_15 : decode cX5_placeOf 15 = .ok (.iaload, 1) := by decide +kernel
theorem dX5_placeOf_16 : decode cX5_placeOf 16 = .ok (.iload_n 1, 1) := by decide +kernel
theorem dX5_placeOf_17 : decode cX5_placeOf 17 = .ok (.if_icmp .ne 7, 3) := by decide +kernel
theorem dX5_placeOf_20 : decode cX5_placeOf 20 = .ok (.iload_n 3, 1) := by decide +kernel
theorem dX5_placeOf_21 : decode cX5_placeOf 21 = .ok (.goto 4, 3) := by decide +kernel
theorem dX5_placeOf_24 : decode cX5_placeOf 24 = .ok (.iload_n 2, 1) := by decide +kernel
theorem dX5_placeOf_25 : decode cX5_placeOf 25 = .ok (.istore_n 2, 1) := by decide +kernel
theorem dX5_placeOf_26 : decode cX5_placeOf 26 = .ok (.iinc 3 1, 3) := by decide +kernel
theorem dX5_placeOf_29 : decode cX5_placeOf 29 = .ok (.goto (-25), 3) := by decide +kernel
theorem dX5_placeOf_32 : decode cX5_placeOf 32 = .ok (.iload_n 2, 1) := by decide +kernel
theorem dX5_placeOf_33 : decode cX5_placeOf 33 = .ok (.ireturn, 1) := by decide +kernel
theorem dX5_holder_0 : decode cX5_holder 0 = .ok (.iload_n 1, 1) := by decide +kernel
theorem dX5_holder_1 : decode cX5_holder 1 = .ok (.invokestatic 96, 3) := by decide +kernel
theorem dX5_holder_4 : decode cX5_holder 4 = .ok (.ifCond .eq 10, 3) := by decide +kernel
theorem dX5_holder_7 : decode cX5_holder 7 = .ok (.iload_n 2, 1) := by decide +kernel
theorem dX5_holder_8 : decode cX5_holder 8 = .ok (.invokestatic 73, 3) := by decide +kernel
theorem dX5_holder_11 : decode cX5_holder 11 = .ok (.ifCond .ne 5, 3) := by decide +kernel
theorem dX5_holder_14 : decode cX5_holder 14 = .ok (.iconst (-1), 1) := by decide +kernel
theorem dX5_holder_15 : decode cX5_holder 15 = .ok (.ireturn, 1) := by decide +kernel
theorem dX5_holder_16 : decode cX5_holder 16 = .ok (.aload_n 0, 1) := by decide +kernel
theorem dX5_holder_17 : decode cX5_holder 17 = .ok (.getfield 7, 3) := by decide +kernel
theorem dX5_holder_20 : decode cX5_holder 20 = .ok (.sipush 312, 3) := by decide +kernel
theorem dX5_holder_23 : decode cX5_holder 23 = .ok (.iload_n 1, 1) := by decide +kernel
theorem dX5_holder_24 : decode cX5_holder 24 = .ok (.iadd, 1) := by decide +kernel
theorem dX5_holder_25 : decode cX5_holder 25 = .ok (.iaload, 1) := by decide +kernel
theorem dX5_holder_26 : decode cX5_holder 26 = .ok (.ifCond .ne 8, 3) := by decide +kernel
theorem dX5_holder_29 : decode cX5_holder 29 = .ok (.bipush (-6), 2) := by decide +kernel
theorem dX5_holder_31 : decode cX5_holder 31 = .ok (.goto 9, 3) := by decide +kernel
theorem dX5_holder_34 : decode cX5_holder 34 = .ok (.aload_n 0, 1) := by decide +kernel
theorem dX5_holder_35 : decode cX5_holder 35 = .ok (.iload_n 1, 1) := by decide +kernel
theorem dX5_holder_36 : decode cX5_holder 36 = .ok (.iload_n 2, 1) := by decide +kernel
theorem dX5_holder_37 : decode cX5_holder 37 = .ok (.invokevirtual 92, 3) := by decide +kernel
theorem dX5_holder_40 : decode cX5_holder 40 = .ok (.ireturn, 1) := by decide +kernel
theorem dX5_lengthOf_0 : decode cX5_lengthOf 0 = .ok (.iconst 0, 1) := by decide +kernel
theorem dX5_lengthOf_1 : decode cX5_lengthOf 1 = .ok (.istore 4, 2) := by decide +kernel
theorem dX5_lengthOf_3 : decode cX5_lengthOf 3 = .ok (.iconst 0, 1) := by decide +kernel
theorem dX5_lengthOf_4 : decode cX5_lengthOf 4 = .ok (.istore 5, 2) := by decide +kernel
theorem dX5_lengthOf_6 : decode cX5_lengthOf 6 = .ok (.iload 5, 2) := by decide +kernel
theorem dX5_lengthOf_8 : decode cX5_lengthOf 8 = .ok (.bipush 13, 2) := by decide +kernel
theorem dX5_lengthOf_10 : decode cX5_lengthOf 10 = .ok (.if_icmp .ge 35, 3) := by decide +kernel
theorem dX5_lengthOf_13 : decode cX5_lengthOf 13 = .ok (.iload 4, 2) := by decide +kernel
theorem dX5_lengthOf_15 : decode cX5_lengthOf 15 = .ok (.aload_n 0, 1) := by decide +kernel
theorem dX5_lengthOf_16 : decode cX5_lengthOf 16 = .ok (.iload_n 1, 1) := by decide +kernel
theorem dX5_lengthOf_17 : decode cX5_lengthOf 17 = .ok (.bipush 13, 2) := by decide +kernel
theorem dX5_lengthOf_19 : decode cX5_lengthOf 19 = .ok (.iload_n 3, 1) := by decide +kernel
theorem dX5_lengthOf_20 : decode cX5_lengthOf 20 = .ok (.imul, 1) := by decide +kernel
theorem dX5_lengthOf_21 : decode cX5_lengthOf 21 = .ok (.iload 5, 2) := by decide +kernel
theorem dX5_lengthOf_23 : decode cX5_lengthOf 23 = .ok (.iadd, 1) := by decide +kernel
theorem dX5_lengthOf_24 : decode cX5_lengthOf 24 = .ok (.invokevirtual 92, 3) := by decide +kernel
theorem dX5_lengthOf_27 : decode cX5_lengthOf 27 = .ok (.iload_n 2, 1) := by decide +kernel
theorem dX5_lengthOf_28 : decode cX5_lengthOf 28 = .ok (.if_icmp .ne 7, 3) := by decide +kernel
theorem dX5_lengthOf_31 : decode cX5_lengthOf 31 = .ok (.iconst 1, 1) := by decide +kernel
theorem dX5_lengthOf_32 : decode cX5_lengthOf 32 = .ok (.goto 4, 3) := by decide +kernel
theorem dX5_lengthOf_35 : decode cX5_lengthOf 35 = .ok (.iconst 0, 1) := by decide +kernel
theorem dX5_lengthOf_36 : decode cX5_lengthOf 36 = .ok (.iadd, 1) := by decide +kernel
theorem dX5_lengthOf_37 : decode cX5_lengthOf 37 = .ok (.istore 4, 2) := by decide +kernel
theorem dX5_lengthOf_39 : decode cX5_lengthOf 39 = .ok (.iinc 5 1, 3) := by decide +kernel
theorem dX5_lengthOf_42 : decode cX5_lengthOf 42 = .ok (.goto (-36), 3) := by decide +kernel
theorem dX5_lengthOf_45 : decode cX5_lengthOf 45 = .ok (.iload 4, 2) := by decide +kernel
theorem dX5_lengthOf_47 : decode cX5_lengthOf 47 = .ok (.ireturn, 1) := by decide +kernel
theorem dX5_isBalanced_0 : decode cX5_isBalanced 0 = .ok (.iconst 0, 1) := by decide +kernel
theorem dX5_isBalanced_1 : decode cX5_isBalanced 1 = .ok (.istore_n 3, 1) := by decide +kernel
theorem dX5_isBalanced_2 : decode cX5_isBalanced 2 = .ok (.iconst 1, 1) := by decide +kernel
theorem dX5_isBalanced_3 : decode cX5_isBalanced 3 = .ok (.istore 4, 2) := by decide +kernel
theorem dX5_isBalanced_5 : decode cX5_isBalanced 5 = .ok (.iconst 0, 1) := by decide +kernel
theorem dX5_isBalanced_6 : decode cX5_isBalanced 6 = .ok (.istore 5, 2) := by decide +kernel
theorem dX5_isBalanced_8 : decode cX5_isBalanced 8 = .ok (.iload 5, 2) := by decide +kernel
theorem dX5_isBalanced_10 : decode cX5_isBalanced 10 = .ok (.iconst 4, 1) := by decide +kernel
theorem dX5_isBalanced_11 : decode cX5_isBalanced 11 = .ok (.if_icmp .ge 51, 3) := by decide +kernel
theorem dX5_isBalanced_14 : decode cX5_isBalanced 14 = .ok (.aload_n 0, 1) := by decide +kernel
theorem dX5_isBalanced_15 : decode cX5_isBalanced 15 = .ok (.iload_n 1, 1) := by decide +kernel
theorem dX5_isBalanced_16 : decode cX5_isBalanced 16 = .ok (.iload_n 2, 1) := by decide +kernel
theorem dX5_isBalanced_17 : decode cX5_isBalanced 17 = .ok (.iload 5, 2) := by decide +kernel
theorem dX5_isBalanced_19 : decode cX5_isBalanced 19 = .ok (.invokevirtual 102, 3) := by decide +kernel
theorem dX5_isBalanced_22 : decode cX5_isBalanced 22 = .ok (.istore 6, 2) := by decide +kernel
theorem dX5_isBalanced_24 : decode cX5_isBalanced 24 = .ok (.iload 4, 2) := by decide +kernel
theorem dX5_isBalanced_26 : decode cX5_isBalanced 26 = .ok (.ifCond .eq 13, 3) := by decide +kernel
theorem dX5_isBalanced_29 : decode cX5_isBalanced 29 = .ok (.iload 6, 2) := by decide +kernel
theorem dX5_isBalanced_31 : decode cX5_isBalanced 31 = .ok (.iconst 1, 1) := by decide +kernel
theorem dX5_isBalanced_32 : decode cX5_isBalanced 32 = .ok (.if_icmp .le 7, 3) := by decide +kernel
theorem dX5_isBalanced_35 : decode cX5_isBalanced 35 = .ok (.iconst 1, 1) := by decide +kernel
theorem dX5_isBalanced_36 : decode cX5_isBalanced 36 = .ok (.goto 4, 3) := by decide +kernel
theorem dX5_isBalanced_39 : decode cX5_isBalanced 39 = .ok (.iconst 0, 1) := by decide +kernel
theorem dX5_isBalanced_40 : decode cX5_isBalanced 40 = .ok (.istore 4, 2) := by decide +kernel
theorem dX5_isBalanced_42 : decode cX5_isBalanced 42 = .ok (.iload_n 3, 1) := by decide +kernel
theorem dX5_isBalanced_43 : decode cX5_isBalanced 43 = .ok (.iload 6, 2) := by decide +kernel
theorem dX5_isBalanced_45 : decode cX5_isBalanced 45 = .ok (.iconst 2, 1) := by decide +kernel
theorem dX5_isBalanced_46 : decode cX5_isBalanced 46 = .ok (.if_icmp .ne 7, 3) := by decide +kernel
theorem dX5_isBalanced_49 : decode cX5_isBalanced 49 = .ok (.iconst 1, 1) := by decide +kernel
theorem dX5_isBalanced_50 : decode cX5_isBalanced 50 = .ok (.goto 4, 3) := by decide +kernel
theorem dX5_isBalanced_53 : decode cX5_isBalanced 53 = .ok (.iconst 0, 1) := by decide +kernel
theorem dX5_isBalanced_54 : decode cX5_isBalanced 54 = .ok (.iadd, 1) := by decide +kernel
theorem dX5_isBalanced_55 : decode cX5_isBalanced 55 = .ok (.istore_n 3, 1) := by decide +kernel
theorem dX5_isBalanced_56 : decode cX5_isBalanced 56 = .ok (.iinc 5 1, 3) := by decide +kernel
theorem dX5_isBalanced_59 : decode cX5_isBalanced 59 = .ok (.goto (-51), 3) := by decide +kernel
theorem dX5_isBalanced_62 : decode cX5_isBalanced 62 = .ok (.iload 4, 2) := by decide +kernel
theorem dX5_isBalanced_64 : decode cX5_isBalanced 64 = .ok (.ifCond .eq 12, 3) := by decide +kernel
theorem dX5_isBalanced_67 : decode cX5_isBalanced 67 = .ok (.iload_n 3, 1) := by decide +kernel
theorem dX5_isBalanced_68 : decode cX5_isBalanced 68 = .ok (.iconst 2, 1) := by decide +kernel
theorem dX5_isBalanced_69 : decode cX5_isBalanced 69 = .ok (.if_icmp .ge 7, 3) := by decide +kernel
theorem dX5_isBalanced_72 : decode cX5_isBalanced 72 = .ok (.iconst 1, 1) := by decide +kernel
theorem dX5_isBalanced_73 : decode cX5_isBalanced 73 = .ok (.goto 4, 3) := by decide +kernel
theorem dX5_isBalanced_76 : decode cX5_isBalanced 76 = .ok (.iconst 0, 1) := by decide +kernel
theorem dX5_isBalanced_77 : decode cX5_isBalanced 77 = .ok (.ireturn, 1) := by decide +kernel
theorem dX5_highestSpade_0 : decode cX5_highestSpade 0 = .ok (.bipush (-6), 2) := by decide +kernel
theorem dX5_highestSpade_2 : decode cX5_highestSpade 2 = .ok (.istore_n 3, 1) := by decide +kernel
theorem dX5_highestSpade_3 : decode cX5_highestSpade 3 = .ok (.iconst 0, 1) := by decide +kernel
theorem dX5_highestSpade_4 : decode cX5_highestSpade 4 = .ok (.istore 4, 2) := by decide +kernel
theorem dX5_highestSpade_6 : decode cX5_highestSpade 6 = .ok (.iload 4, 2) := by decide +kernel
theorem dX5_highestSpade_8 : decode cX5_highestSpade 8 = .ok (.bipush 13, 2) := by decide +kernel
theorem dX5_highestSpade_10 : decode cX5_highestSpade 10 = .ok (.if_icmp .ge 30, 3) := by decide +kernel
theorem dX5_highestSpade_13 : decode cX5_highestSpade 13 = .ok (.aload_n 0, 1) := by decide +kernel
theorem dX5_highestSpade_14 : decode cX5_highestSpade 14 = .ok (.iload_n 1, 1) := by decide +kernel
theorem dX5_highestSpade_15 : decode cX5_highestSpade 15 = .ok (.bipush 39, 2) := by decide +kernel
theorem dX5_highestSpade_17 : decode cX5_highestSpade 17 = .ok (.iload 4, 2) := by decide +kernel
theorem dX5_highestSpade_19 : decode cX5_highestSpade 19 = .ok (.iadd, 1) := by decide +kernel
theorem dX5_highestSpade_20 : decode cX5_highestSpade 20 = .ok (.invokevirtual 92, 3) := by decide +kernel
theorem dX5_highestSpade_23 : decode cX5_highestSpade 23 = .ok (.iload_n 2, 1) := by decide +kernel
theorem dX5_highestSpade_24 : decode cX5_highestSpade 24 = .ok (.if_icmp .ne 8, 3) := by decide +kernel
theorem dX5_highestSpade_27 : decode cX5_highestSpade 27 = .ok (.iload 4, 2) := by decide +kernel
theorem dX5_highestSpade_29 : decode cX5_highestSpade 29 = .ok (.goto 4, 3) := by decide +kernel
theorem dX5_highestSpade_32 : decode cX5_highestSpade 32 = .ok (.iload_n 3, 1) := by decide +kernel
theorem dX5_highestSpade_33 : decode cX5_highestSpade 33 = .ok (.istore_n 3, 1) := by decide +kernel
theorem dX5_highestSpade_34 : decode cX5_highestSpade 34 = .ok (.iinc 4 1, 3) := by decide +kernel
theorem dX5_highestSpade_37 : decode cX5_highestSpade 37 = .ok (.goto (-31), 3) := by decide +kernel
theorem dX5_highestSpade_40 : decode cX5_highestSpade 40 = .ok (.iload_n 3, 1) := by decide +kernel
theorem dX5_highestSpade_41 : decode cX5_highestSpade 41 = .ok (.ireturn, 1) := by decide +kernel
theorem dX5_hand_0 : decode cX5_hand 0 = .ok (.iload_n 1, 1) := by decide +kernel
theorem dX5_hand_1 : decode cX5_hand 1 = .ok (.invokestatic 96, 3) := by decide +kernel
theorem dX5_hand_4 : decode cX5_hand 4 = .ok (.ifCond .eq 12, 3) := by decide +kernel
theorem dX5_hand_7 : decode cX5_hand 7 = .ok (.iload_n 2, 1) := by decide +kernel
theorem dX5_hand_8 : decode cX5_hand 8 = .ok (.iconst 0, 1) := by decide +kernel
theorem dX5_hand_9 : decode cX5_hand 9 = .ok (.iconst 3, 1) := by decide +kernel
theorem dX5_hand_10 : decode cX5_hand 10 = .ok (.invokestatic 35, 3) := by decide +kernel
theorem dX5_hand_13 : decode cX5_hand 13 = .ok (.ifCond .ne 5, 3) := by decide +kernel
theorem dX5_hand_16 : decode cX5_hand 16 = .ok (.iconst (-1), 1) := by decide +kernel
theorem dX5_hand_17 : decode cX5_hand 17 = .ok (.ireturn, 1) := by decide +kernel
theorem dX5_hand_18 : decode cX5_hand 18 = .ok (.iload_n 3, 1) := by decide +kernel
theorem dX5_hand_19 : decode cX5_hand 19 = .ok (.iconst 0, 1) := by decide +kernel
theorem dX5_hand_20 : decode cX5_hand 20 = .ok (.bipush 6, 2) := by decide +kernel
theorem dX5_hand_22 : decode cX5_hand 22 = .ok (.invokestatic 35, 3) := by decide +kernel
theorem dX5_hand_25 : decode cX5_hand 25 = .ok (.ifCond .ne 6, 3) := by decide +kernel
theorem dX5_hand_28 : decode cX5_hand 28 = .ok (.bipush (-2), 2) := by decide +kernel
theorem dX5_hand_30 : decode cX5_hand 30 = .ok (.ireturn, 1) := by decide +kernel
theorem dX5_hand_31 : decode cX5_hand 31 = .ok (.aload_n 0, 1) := by decide +kernel
theorem dX5_hand_32 : decode cX5_hand 32 = .ok (.getfield 7, 3) := by decide +kernel
theorem dX5_hand_35 : decode cX5_hand 35 = .ok (.sipush 312, 3) := by decide +kernel
theorem dX5_hand_38 : decode cX5_hand 38 = .ok (.iload_n 1, 1) := by decide +kernel
theorem dX5_hand_39 : decode cX5_hand 39 = .ok (.iadd, 1) := by decide +kernel
theorem dX5_hand_40 : decode cX5_hand 40 = .ok (.iaload, 1) := by decide +kernel
theorem dX5_hand_41 : decode cX5_hand 41 = .ok (.ifCond .ne 6, 3) := by decide +kernel
theorem dX5_hand_44 : decode cX5_hand 44 = .ok (.bipush (-6), 2) := by decide +kernel
theorem dX5_hand_46 : decode cX5_hand 46 = .ok (.ireturn, 1) := by decide +kernel
theorem dX5_hand_47 : decode cX5_hand 47 = .ok (.iload_n 3, 1) := by decide +kernel
theorem dX5_hand_48 : decode cX5_hand 48 = .ok (.tableswitch 57 4 6 #[28, 35, 50], 28) := by decide +kernel
theorem dX5_hand_76 : decode cX5_hand 76 = .ok (.aload_n 0, 1) := by decide +kernel
theorem dX5_hand_77 : decode cX5_hand 77 = .ok (.iload_n 1, 1) := by decide +kernel
theorem dX5_hand_78 : decode cX5_hand 78 = .ok (.iload_n 2, 1) := by decide +kernel
theorem dX5_hand_79 : decode cX5_hand 79 = .ok (.invokevirtual 99, 3) := by decide +kernel
theorem dX5_hand_82 : decode cX5_hand 82 = .ok (.ireturn, 1) := by decide +kernel
theorem dX5_hand_83 : decode cX5_hand 83 = .ok (.aload_n 0, 1) := by decide +kernel
theorem dX5_hand_84 : decode cX5_hand 84 = .ok (.iload_n 1, 1) := by decide +kernel
theorem dX5_hand_85 : decode cX5_hand 85 = .ok (.iload_n 2, 1) := by decide +kernel
theorem dX5_hand_86 : decode cX5_hand 86 = .ok (.invokevirtual 106, 3) := by decide +kernel
theorem dX5_hand_89 : decode cX5_hand 89 = .ok (.ifCond .eq 7, 3) := by decide +kernel
theorem dX5_hand_92 : decode cX5_hand 92 = .ok (.iconst 1, 1) := by decide +kernel
theorem dX5_hand_93 : decode cX5_hand 93 = .ok (.goto 4, 3) := by decide +kernel
theorem dX5_hand_96 : decode cX5_hand 96 = .ok (.iconst 0, 1) := by decide +kernel
theorem dX5_hand_97 : decode cX5_hand 97 = .ok (.ireturn, 1) := by decide +kernel
theorem dX5_hand_98 : decode cX5_hand 98 = .ok (.aload_n 0, 1) := by decide +kernel
theorem dX5_hand_99 : decode cX5_hand 99 = .ok (.iload_n 1, 1) := by decide +kernel
theorem dX5_hand_100 : decode cX5_hand 100 = .ok (.iload_n 2, 1) := by decide +kernel
theorem dX5_hand_101 : decode cX5_hand 101 = .ok (.invokevirtual 110, 3) := by decide +kernel
theorem dX5_hand_104 : decode cX5_hand 104 = .ok (.ireturn, 1) := by decide +kernel
theorem dX5_hand_105 : decode cX5_hand 105 = .ok (.aload_n 0, 1) := by decide +kernel
theorem dX5_hand_106 : decode cX5_hand 106 = .ok (.iload_n 1, 1) := by decide +kernel
theorem dX5_hand_107 : decode cX5_hand 107 = .ok (.iload_n 2, 1) := by decide +kernel
theorem dX5_hand_108 : decode cX5_hand 108 = .ok (.iload_n 3, 1) := by decide +kernel
theorem dX5_hand_109 : decode cX5_hand 109 = .ok (.invokevirtual 102, 3) := by decide +kernel
theorem dX5_hand_112 : decode cX5_hand 112 = .ok (.ireturn, 1) := by decide +kernel
theorem dX5_bestHand_0 : decode cX5_bestHand 0 = .ok (.iconst 0, 1) := by decide +kernel
theorem dX5_bestHand_1 : decode cX5_bestHand 1 = .ok (.istore_n 2, 1) := by decide +kernel
theorem dX5_bestHand_2 : decode cX5_bestHand 2 = .ok (.iconst 1, 1) := by decide +kernel
theorem dX5_bestHand_3 : decode cX5_bestHand 3 = .ok (.istore_n 3, 1) := by decide +kernel
theorem dX5_bestHand_4 : decode cX5_bestHand 4 = .ok (.iload_n 3, 1) := by decide +kernel
theorem dX5_bestHand_5 : decode cX5_bestHand 5 = .ok (.iconst 4, 1) := by decide +kernel
theorem dX5_bestHand_6 : decode cX5_bestHand 6 = .ok (.if_icmp .ge 30, 3) := by decide +kernel
theorem dX5_bestHand_9 : decode cX5_bestHand 9 = .ok (.aload_n 0, 1) := by decide +kernel
theorem dX5_bestHand_10 : decode cX5_bestHand 10 = .ok (.iload_n 1, 1) := by decide +kernel
theorem dX5_bestHand_11 : decode cX5_bestHand 11 = .ok (.iload_n 3, 1) := by decide +kernel
theorem dX5_bestHand_12 : decode cX5_bestHand 12 = .ok (.invokevirtual 99, 3) := by decide +kernel
theorem dX5_bestHand_15 : decode cX5_bestHand 15 = .ok (.aload_n 0, 1) := by decide +kernel
theorem dX5_bestHand_16 : decode cX5_bestHand 16 = .ok (.iload_n 1, 1) := by decide +kernel
theorem dX5_bestHand_17 : decode cX5_bestHand 17 = .ok (.iload_n 2, 1) := by decide +kernel
theorem dX5_bestHand_18 : decode cX5_bestHand 18 = .ok (.invokevirtual 99, 3) := by decide +kernel
theorem dX5_bestHand_21 : decode cX5_bestHand 21 = .ok (.if_icmp .le 7, 3) := by decide +kernel
theorem dX5_bestHand_24 : decode cX5_bestHand 24 = .ok (.iload_n 3, 1) := by decide +kernel
theorem dX5_bestHand_25 : decode cX5_bestHand 25 = .ok (.goto 4, 3) := by decide +kernel
theorem dX5_bestHand_28 : decode cX5_bestHand 28 = .ok (.iload_n 2, 1) := by decide +kernel
theorem dX5_bestHand_29 : decode cX5_bestHand 29 = .ok (.istore_n 2, 1) := by decide +kernel
theorem dX5_bestHand_30 : decode cX5_bestHand 30 = .ok (.iinc 3 1, 3) := by decide +kernel
theorem dX5_bestHand_33 : decode cX5_bestHand 33 = .ok (.goto (-29), 3) := by decide +kernel
theorem dX5_bestHand_36 : decode cX5_bestHand 36 = .ok (.aload_n 0, 1) := by decide +kernel
theorem dX5_bestHand_37 : decode cX5_bestHand 37 = .ok (.getfield 7, 3) := by decide +kernel
theorem dX5_bestHand_40 : decode cX5_bestHand 40 = .ok (.sipush 312, 3) := by decide +kernel
theorem dX5_bestHand_43 : decode cX5_bestHand 43 = .ok (.iload_n 1, 1) := by decide +kernel
theorem dX5_bestHand_44 : decode cX5_bestHand 44 = .ok (.iadd, 1) := by decide +kernel
theorem dX5_bestHand_45 : decode cX5_bestHand 45 = .ok (.iaload, 1) := by decide +kernel
theorem dX5_bestHand_46 : decode cX5_bestHand 46 = .ok (.ifCond .ne 8, 3) := by decide +kernel
theorem dX5_bestHand_49 : decode cX5_bestHand 49 = .ok (.bipush (-6), 2) := by decide +kernel
theorem dX5_bestHand_51 : decode cX5_bestHand 51 = .ok (.goto 4, 3) := by decide +kernel
theorem dX5_bestHand_54 : decode cX5_bestHand 54 = .ok (.iload_n 2, 1) := by decide +kernel
theorem dX5_bestHand_55 : decode cX5_bestHand 55 = .ok (.ireturn, 1) := by decide +kernel
theorem dX5_balancedHands_0 : decode cX5_balancedHands 0 = .ok (.iconst 0, 1) := by decide +kernel
theorem dX5_balancedHands_1 : decode cX5_balancedHands 1 = .ok (.istore_n 2, 1) := by decide +kernel
theorem dX5_balancedHands_2 : decode cX5_balancedHands 2 = .ok (.iconst 0, 1) := by decide +kernel
theorem dX5_balancedHands_3 : decode cX5_balancedHands 3 = .ok (.istore_n 3, 1) := by decide +kernel
theorem dX5_balancedHands_4 : decode cX5_balancedHands 4 = .ok (.iload_n 3, 1) := by decide +kernel
theorem dX5_balancedHands_5 : decode cX5_balancedHands 5 = .ok (.iconst 4, 1) := by decide +kernel
theorem dX5_balancedHands_6 : decode cX5_balancedHands 6 = .ok (.if_icmp .ge 42, 3) := by decide +kernel
theorem dX5_balancedHands_9 : decode cX5_balancedHands 9 = .ok (.iload_n 2, 1) := by decide +kernel
theorem dX5_balancedHands_10 : decode cX5_balancedHands 10 = .ok (.aload_n 0, 1) := by decide +kernel
theorem dX5_balancedHands_11 : decode cX5_balancedHands 11 = .ok (.getfield 7, 3) := by decide +kernel
theorem dX5_balancedHands_14 : decode cX5_balancedHands 14 = .ok (.sipush 312, 3) := by decide +kernel
theorem dX5_balancedHands_17 : decode cX5_balancedHands 17 = .ok (.iload_n 1, 1) := by decide +kernel
theorem dX5_balancedHands_18 : decode cX5_balancedHands 18 = .ok (.iadd, 1) := by decide +kernel
theorem dX5_balancedHands_19 : decode cX5_balancedHands 19 = .ok (.iaload, 1) := by decide +kernel
theorem dX5_balancedHands_20 : decode cX5_balancedHands 20 = .ok (.iconst 1, 1) := by decide +kernel
theorem dX5_balancedHands_21 : decode cX5_balancedHands 21 = .ok (.if_icmp .ne 18, 3) := by decide +kernel
theorem dX5_balancedHands_24 : decode cX5_balancedHands 24 = .ok (.aload_n 0, 1) := by decide +kernel
theorem dX5_balancedHands_25 : decode cX5_balancedHands 25 = .ok (.iload_n 1, 1) := by decide +kernel
theorem dX5_balancedHands_26 : decode cX5_balancedHands 26 = .ok (.iload_n 3, 1) := by decide +kernel
theorem dX5_balancedHands_27 : decode cX5_balancedHands 27 = .ok (.invokevirtual 106, 3) := by decide +kernel
theorem dX5_balancedHands_30 : decode cX5_balancedHands 30 = .ok (.ifCond .eq 9, 3) := by decide +kernel
theorem dX5_balancedHands_33 : decode cX5_balancedHands 33 = .ok (.iconst 1, 1) := by decide +kernel
theorem dX5_balancedHands_34 : decode cX5_balancedHands 34 = .ok (.iload_n 3, 1) := by decide +kernel
theorem dX5_balancedHands_35 : decode cX5_balancedHands 35 = .ok (.ishl, 1) := by decide +kernel
theorem dX5_balancedHands_36 : decode cX5_balancedHands 36 = .ok (.goto 4, 3) := by decide +kernel
theorem dX5_balancedHands_39 : decode cX5_balancedHands 39 = .ok (.iconst 0, 1) := by decide +kernel
theorem dX5_balancedHands_40 : decode cX5_balancedHands 40 = .ok (.ior, 1) := by decide +kernel
theorem dX5_balancedHands_41 : decode cX5_balancedHands 41 = .ok (.istore_n 2, 1) := by decide +kernel
theorem dX5_balancedHands_42 : decode cX5_balancedHands 42 = .ok (.iinc 3 1, 3) := by decide +kernel
theorem dX5_balancedHands_45 : decode cX5_balancedHands 45 = .ok (.goto (-41), 3) := by decide +kernel
theorem dX5_balancedHands_48 : decode cX5_balancedHands 48 = .ok (.iload_n 2, 1) := by decide +kernel
theorem dX5_balancedHands_49 : decode cX5_balancedHands 49 = .ok (.ireturn, 1) := by decide +kernel
theorem dX5_board_0 : decode cX5_board 0 = .ok (.iload_n 1, 1) := by decide +kernel
theorem dX5_board_1 : decode cX5_board 1 = .ok (.invokestatic 96, 3) := by decide +kernel
theorem dX5_board_4 : decode cX5_board 4 = .ok (.ifCond .ne 5, 3) := by decide +kernel
theorem dX5_board_7 : decode cX5_board 7 = .ok (.iconst (-1), 1) := by decide +kernel
theorem dX5_board_8 : decode cX5_board 8 = .ok (.ireturn, 1) := by decide +kernel
theorem dX5_board_9 : decode cX5_board 9 = .ok (.iload_n 2, 1) := by decide +kernel
theorem dX5_board_10 : decode cX5_board 10 = .ok (.tableswitch 79 0 4 #[34, 45, 56, 67, 73], 34) := by decide +kernel
theorem dX5_board_44 : decode cX5_board 44 = .ok (.aload_n 0, 1) := by decide +kernel
theorem dX5_board_45 : decode cX5_board 45 = .ok (.getfield 7, 3) := by decide +kernel
theorem dX5_board_48 : decode cX5_board 48 = .ok (.sipush 312, 3) := by decide +kernel
theorem dX5_board_51 : decode cX5_board 51 = .ok (.iload_n 1, 1) := by decide +kernel
theorem dX5_board_52 : decode cX5_board 52 = .ok (.iadd, 1) := by decide +kernel
theorem dX5_board_53 : decode cX5_board 53 = .ok (.iaload, 1) := by decide +kernel
theorem dX5_board_54 : decode cX5_board 54 = .ok (.ireturn, 1) := by decide +kernel
theorem dX5_board_55 : decode cX5_board 55 = .ok (.aload_n 0, 1) := by decide +kernel
theorem dX5_board_56 : decode cX5_board 56 = .ok (.getfield 7, 3) := by decide +kernel
theorem dX5_board_59 : decode cX5_board 59 = .ok (.sipush 316, 3) := by decide +kernel
theorem dX5_board_62 : decode cX5_board 62 = .ok (.iload_n 1, 1) := by decide +kernel
theorem dX5_board_63 : decode cX5_board 63 = .ok (.iadd, 1) := by decide +kernel
theorem dX5_board_64 : decode cX5_board 64 = .ok (.iaload, 1) := by decide +kernel
theorem dX5_board_65 : decode cX5_board 65 = .ok (.ireturn, 1) := by decide +kernel
theorem dX5_board_66 : decode cX5_board 66 = .ok (.aload_n 0, 1) := by decide +kernel
theorem dX5_board_67 : decode cX5_board 67 = .ok (.getfield 7, 3) := by decide +kernel
theorem dX5_board_70 : decode cX5_board 70 = .ok (.sipush 320, 3) := by decide +kernel
theorem dX5_board_73 : decode cX5_board 73 = .ok (.iload_n 1, 1) := by decide +kernel
theorem dX5_board_74 : decode cX5_board 74 = .ok (.iadd, 1) := by decide +kernel
theorem dX5_board_75 : decode cX5_board 75 = .ok (.iaload, 1) := by decide +kernel
theorem dX5_board_76 : decode cX5_board 76 = .ok (.ireturn, 1) := by decide +kernel
theorem dX5_board_77 : decode cX5_board 77 = .ok (.aload_n 0, 1) := by decide +kernel
theorem dX5_board_78 : decode cX5_board 78 = .ok (.iload_n 1, 1) := by decide +kernel
theorem dX5_board_79 : decode cX5_board 79 = .ok (.invokevirtual 113, 3) := by decide +kernel
theorem dX5_board_82 : decode cX5_board 82 = .ok (.ireturn, 1) := by decide +kernel
theorem dX5_board_83 : decode cX5_board 83 = .ok (.aload_n 0, 1) := by decide +kernel
theorem dX5_board_84 : decode cX5_board 84 = .ok (.iload_n 1, 1) := by decide +kernel
theorem dX5_board_85 : decode cX5_board 85 = .ok (.invokevirtual 116, 3) := by decide +kernel
theorem dX5_board_88 : decode cX5_board 88 = .ok (.ireturn, 1) := by decide +kernel
theorem dX5_board_89 : decode cX5_board 89 = .ok (.bipush (-2), 2) := by decide +kernel
theorem dX5_board_91 : decode cX5_board 91 = .ok (.ireturn, 1) := by decide +kernel
theorem dX5_pairsInOrder_0 : decode cX5_pairsInOrder 0 = .ok (.iconst 0, 1) := by decide +kernel
theorem dX5_pairsInOrder_1 : decode cX5_pairsInOrder 1 = .ok (.istore_n 1, 1) := by decide +kernel
theorem dX5_pairsInOrder_2 : decode cX5_pairsInOrder 2 = .ok (.iconst 0, 1) := by decide +kernel
theorem dX5_pairsInOrder_3 : decode cX5_pairsInOrder 3 = .ok (.istore_n 2, 1) := by decide +kernel
theorem dX5_pairsInOrder_4 : decode cX5_pairsInOrder 4 = .ok (.iload_n 2, 1) := by decide +kernel
theorem dX5_pairsInOrder_5 : decode cX5_pairsInOrder 5 = .ok (.iconst 1, 1) := by decide +kernel
theorem dX5_pairsInOrder_6 : decode cX5_pairsInOrder 6 = .ok (.iadd, 1) := by decide +kernel
theorem dX5_pairsInOrder_7 : decode cX5_pairsInOrder 7 = .ok (.bipush 52, 2) := by decide +kernel
theorem dX5_pairsInOrder_9 : decode cX5_pairsInOrder 9 = .ok (.if_icmp .ge 36, 3) := by decide +kernel
theorem dX5_pairsInOrder_12 : decode cX5_pairsInOrder 12 = .ok (.iload_n 1, 1) := by decide +kernel
theorem dX5_pairsInOrder_13 : decode cX5_pairsInOrder 13 = .ok (.aload_n 0, 1) := by decide +kernel
theorem dX5_pairsInOrder_14 : decode cX5_pairsInOrder 14 = .ok (.getfield 7, 3) := by decide +kernel
theorem dX5_pairsInOrder_17 : decode cX5_pairsInOrder 17 = .ok (.iload_n 2, 1) := by decide +kernel
theorem dX5_pairsInOrder_18 : decode cX5_pairsInOrder 18 = .ok (.iconst 1, 1) := by decide +kernel
theorem dX5_pairsInOrder_19 : decode cX5_pairsInOrder 19 = .ok (.iadd, 1) := by decide +kernel
theorem dX5_pairsInOrder_20 : decode cX5_pairsInOrder 20 = .ok (.iaload, 1) := by decide +kernel
theorem dX5_pairsInOrder_21 : decode cX5_pairsInOrder 21 = .ok (.aload_n 0, 1) := by decide +kernel
theorem dX5_pairsInOrder_22 : decode cX5_pairsInOrder 22 = .ok (.getfield 7, 3) := by decide +kernel
theorem dX5_pairsInOrder_25 : decode cX5_pairsInOrder 25 = .ok (.iload_n 2, 1) := by decide +kernel
theorem dX5_pairsInOrder_26 : decode cX5_pairsInOrder 26 = .ok (.iaload, 1) := by decide +kernel
theorem dX5_pairsInOrder_27 : decode cX5_pairsInOrder 27 = .ok (.iconst 1, 1) := by decide +kernel
theorem dX5_pairsInOrder_28 : decode cX5_pairsInOrder 28 = .ok (.iadd, 1) := by decide +kernel
theorem dX5_pairsInOrder_29 : decode cX5_pairsInOrder 29 = .ok (.if_icmp .ne 7, 3) := by decide +kernel
theorem dX5_pairsInOrder_32 : decode cX5_pairsInOrder 32 = .ok (.iconst 1, 1) := by decide +kernel
theorem dX5_pairsInOrder_33 : decode cX5_pairsInOrder 33 = .ok (.goto 4, 3) := by decide +kernel
theorem dX5_pairsInOrder_36 : decode cX5_pairsInOrder 36 = .ok (.iconst 0, 1) := by decide +kernel
theorem dX5_pairsInOrder_37 : decode cX5_pairsInOrder 37 = .ok (.iadd, 1) := by decide +kernel
theorem dX5_pairsInOrder_38 : decode cX5_pairsInOrder 38 = .ok (.istore_n 1, 1) := by decide +kernel
theorem dX5_pairsInOrder_39 : decode cX5_pairsInOrder 39 = .ok (.iinc 2 1, 3) := by decide +kernel
theorem dX5_pairsInOrder_42 : decode cX5_pairsInOrder 42 = .ok (.goto (-38), 3) := by decide +kernel
theorem dX5_pairsInOrder_45 : decode cX5_pairsInOrder 45 = .ok (.iload_n 1, 1) := by decide +kernel
theorem dX5_pairsInOrder_46 : decode cX5_pairsInOrder 46 = .ok (.ireturn, 1) := by decide +kernel
theorem dX5_count_0 : decode cX5_count 0 = .ok (.iload_n 1, 1) := by decide +kernel
theorem dX5_count_1 : decode cX5_count 1 = .ok (.tableswitch 123 0 13 #[71, 71, 71, 82, 87, 87, 87, 87, 87, 87, 100, 108, 113, 118], 71) := by decide +kernel
theorem dX5_count_72 : decode cX5_count 72 = .ok (.aload_n 0, 1) := by decide +kernel
theorem dX5_count_73 : decode cX5_count 73 = .ok (.getfield 7, 3) := by decide +kernel
theorem dX5_count_76 : decode cX5_count 76 = .ok (.sipush 324, 3) := by decide +kernel
theorem dX5_count_79 : decode cX5_count 79 = .ok (.iload_n 1, 1) := by decide +kernel
theorem dX5_count_80 : decode cX5_count 80 = .ok (.iadd, 1) := by decide +kernel
theorem dX5_count_81 : decode cX5_count 81 = .ok (.iaload, 1) := by decide +kernel
theorem dX5_count_82 : decode cX5_count 82 = .ok (.ireturn, 1) := by decide +kernel
theorem dX5_count_83 : decode cX5_count 83 = .ok (.aload_n 0, 1) := by decide +kernel
theorem dX5_count_84 : decode cX5_count 84 = .ok (.invokevirtual 77, 3) := by decide +kernel
theorem dX5_count_87 : decode cX5_count 87 = .ok (.ireturn, 1) := by decide +kernel
theorem dX5_count_88 : decode cX5_count 88 = .ok (.aload_n 0, 1) := by decide +kernel
theorem dX5_count_89 : decode cX5_count 89 = .ok (.getfield 7, 3) := by decide +kernel
theorem dX5_count_92 : decode cX5_count 92 = .ok (.sipush 327, 3) := by decide +kernel
theorem dX5_count_95 : decode cX5_count 95 = .ok (.iload_n 1, 1) := by decide +kernel
theorem dX5_count_96 : decode cX5_count 96 = .ok (.iadd, 1) := by decide +kernel
theorem dX5_count_97 : decode cX5_count 97 = .ok (.iconst 4, 1) := by decide +kernel
theorem dX5_count_98 : decode cX5_count 98 = .ok (.isub, 1) := by decide +kernel
theorem dX5_count_99 : decode cX5_count 99 = .ok (.iaload, 1) := by decide +kernel
theorem dX5_count_100 : decode cX5_count 100 = .ok (.ireturn, 1) := by decide +kernel
theorem dX5_count_101 : decode cX5_count 101 = .ok (.aload_n 0, 1) := by decide +kernel
theorem dX5_count_102 : decode cX5_count 102 = .ok (.sipush 316, 3) := by decide +kernel
theorem dX5_count_105 : decode cX5_count 105 = .ok (.invokevirtual 43, 3) := by decide +kernel
theorem dX5_count_108 : decode cX5_count 108 = .ok (.ireturn, 1) := by decide +kernel
theorem dX5_count_109 : decode cX5_count 109 = .ok (.aload_n 0, 1) := by decide +kernel
theorem dX5_count_110 : decode cX5_count 110 = .ok (.invokevirtual 119, 3) := by decide +kernel
theorem dX5_count_113 : decode cX5_count 113 = .ok (.ireturn, 1) := by decide +kernel
theorem dX5_count_114 : decode cX5_count 114 = .ok (.aload_n 0, 1) := by decide +kernel
theorem dX5_count_115 : decode cX5_count 115 = .ok (.getfield 83, 3) := by decide +kernel
theorem dX5_count_118 : decode cX5_count 118 = .ok (.ireturn, 1) := by decide +kernel
theorem dX5_count_119 : decode cX5_count 119 = .ok (.aload_n 0, 1) := by decide +kernel
theorem dX5_count_120 : decode cX5_count 120 = .ok (.getfield 39, 3) := by decide +kernel
theorem dX5_count_123 : decode cX5_count 123 = .ok (.ireturn, 1) := by decide +kernel
theorem dX5_count_124 : decode cX5_count 124 = .ok (.bipush (-2), 2) := by decide +kernel
theorem dX5_count_126 : decode cX5_count 126 = .ok (.ireturn, 1) := by decide +kernel
theorem dX5_alike_0 : decode cX5_alike 0 = .ok (.iload_n 1, 1) := by decide +kernel
theorem dX5_alike_1 : decode cX5_alike 1 = .ok (.invokestatic 96, 3) := by decide +kernel
theorem dX5_alike_4 : decode cX5_alike 4 = .ok (.ifCond .eq 10, 3) := by decide +kernel
theorem dX5_alike_7 : decode cX5_alike 7 = .ok (.iload_n 2, 1) := by decide +kernel
theorem dX5_alike_8 : decode cX5_alike 8 = .ok (.invokestatic 96, 3) := by decide +kernel
theorem dX5_alike_11 : decode cX5_alike 11 = .ok (.ifCond .ne 5, 3) := by decide +kernel
theorem dX5_alike_14 : decode cX5_alike 14 = .ok (.iconst (-1), 1) := by decide +kernel
theorem dX5_alike_15 : decode cX5_alike 15 = .ok (.ireturn, 1) := by decide +kernel
theorem dX5_alike_16 : decode cX5_alike 16 = .ok (.aload_n 0, 1) := by decide +kernel
theorem dX5_alike_17 : decode cX5_alike 17 = .ok (.getfield 7, 3) := by decide +kernel
theorem dX5_alike_20 : decode cX5_alike 20 = .ok (.sipush 312, 3) := by decide +kernel
theorem dX5_alike_23 : decode cX5_alike 23 = .ok (.iload_n 1, 1) := by decide +kernel
theorem dX5_alike_24 : decode cX5_alike 24 = .ok (.iadd, 1) := by decide +kernel
theorem dX5_alike_25 : decode cX5_alike 25 = .ok (.iaload, 1) := by decide +kernel
theorem dX5_alike_26 : decode cX5_alike 26 = .ok (.ifCond .eq 16, 3) := by decide +kernel
theorem dX5_alike_29 : decode cX5_alike 29 = .ok (.aload_n 0, 1) := by decide +kernel
theorem dX5_alike_30 : decode cX5_alike 30 = .ok (.getfield 7, 3) := by decide +kernel
theorem dX5_alike_33 : decode cX5_alike 33 = .ok (.sipush 312, 3) := by decide +kernel
theorem dX5_alike_36 : decode cX5_alike 36 = .ok (.iload_n 2, 1) := by decide +kernel
theorem dX5_alike_37 : decode cX5_alike 37 = .ok (.iadd, 1) := by decide +kernel
theorem dX5_alike_38 : decode cX5_alike 38 = .ok (.iaload, 1) := by decide +kernel
theorem dX5_alike_39 : decode cX5_alike 39 = .ok (.ifCond .ne 6, 3) := by decide +kernel
theorem dX5_alike_42 : decode cX5_alike 42 = .ok (.bipush (-6), 2) := by decide +kernel
theorem dX5_alike_44 : decode cX5_alike 44 = .ok (.ireturn, 1) := by decide +kernel
theorem dX5_alike_45 : decode cX5_alike 45 = .ok (.iconst 1, 1) := by decide +kernel
theorem dX5_alike_46 : decode cX5_alike 46 = .ok (.istore_n 3, 1) := by decide +kernel
theorem dX5_alike_47 : decode cX5_alike 47 = .ok (.iconst 0, 1) := by decide +kernel
theorem dX5_alike_48 : decode cX5_alike 48 = .ok (.istore 4, 2) := by decide +kernel
theorem dX5_alike_50 : decode cX5_alike 50 = .ok (.iload 4, 2) := by decide +kernel
theorem dX5_alike_52 : decode cX5_alike 52 = .ok (.bipush 52, 2) := by decide +kernel
theorem dX5_alike_54 : decode cX5_alike 54 = .ok (.if_icmp .ge 36, 3) := by decide +kernel
theorem dX5_alike_57 : decode cX5_alike 57 = .ok (.iload_n 3, 1) := by decide +kernel
theorem dX5_alike_58 : decode cX5_alike 58 = .ok (.ifCond .eq 24, 3) := by decide +kernel
theorem dX5_alike_61 : decode cX5_alike 61 = .ok (.aload_n 0, 1) := by decide +kernel
theorem dX5_alike_62 : decode cX5_alike 62 = .ok (.iload_n 1, 1) := by decide +kernel
theorem dX5_alike_63 : decode cX5_alike 63 = .ok (.iload 4, 2) := by decide +kernel
theorem dX5_alike_65 : decode cX5_alike 65 = .ok (.invokevirtual 92, 3) := by decide +kernel
theorem dX5_alike_68 : decode cX5_alike 68 = .ok (.aload_n 0, 1) := by decide +kernel
theorem dX5_alike_69 : decode cX5_alike 69 = .ok (.iload_n 2, 1) := by decide +kernel
theorem dX5_alike_70 : decode cX5_alike 70 = .ok (.iload 4, 2) := by decide +kernel
theorem dX5_alike_72 : decode cX5_alike 72 = .ok (.invokevirtual 92, 3) := by decide +kernel
theorem dX5_alike_75 : decode cX5_alike 75 = .ok (.if_icmp .ne 7, 3) := by decide +kernel
theorem dX5_alike_78 : decode cX5_alike 78 = .ok (.iconst 1, 1) := by decide +kernel
theorem dX5_alike_79 : decode cX5_alike 79 = .ok (.goto 4, 3) := by decide +kernel
theorem dX5_alike_82 : decode cX5_alike 82 = .ok (.iconst 0, 1) := by decide +kernel
theorem dX5_alike_83 : decode cX5_alike 83 = .ok (.istore_n 3, 1) := by decide +kernel
theorem dX5_alike_84 : decode cX5_alike 84 = .ok (.iinc 4 1, 3) := by decide +kernel
theorem dX5_alike_87 : decode cX5_alike 87 = .ok (.goto (-37), 3) := by decide +kernel
theorem dX5_alike_90 : decode cX5_alike 90 = .ok (.iload_n 3, 1) := by decide +kernel
theorem dX5_alike_91 : decode cX5_alike 91 = .ok (.ifCond .eq 7, 3) := by decide +kernel
theorem dX5_alike_94 : decode cX5_alike 94 = .ok (.iconst 1, 1) := by decide +kernel
theorem dX5_alike_95 : decode cX5_alike 95 = .ok (.goto 4, 3) := by decide +kernel
theorem dX5_alike_98 : decode cX5_alike 98 = .ok (.iconst 0, 1) := by decide +kernel
theorem dX5_alike_99 : decode cX5_alike 99 = .ok (.ireturn, 1) := by decide +kernel
theorem dX5_ifRiffled_0 : decode cX5_ifRiffled 0 = .ok (.iload_n 1, 1) := by decide +kernel
theorem dX5_ifRiffled_1 : decode cX5_ifRiffled 1 = .ok (.iconst 1, 1) := by decide +kernel
theorem dX5_ifRiffled_2 : decode cX5_ifRiffled 2 = .ok (.bipush 20, 2) := by decide +kernel
theorem dX5_ifRiffled_4 : decode cX5_ifRiffled 4 = .ok (.invokestatic 35, 3) := by decide +kernel
theorem dX5_ifRiffled_7 : decode cX5_ifRiffled 7 = .ok (.ifCond .eq 22, 3) := by decide +kernel
theorem dX5_ifRiffled_10 : decode cX5_ifRiffled 10 = .ok (.iload_n 2, 1) := by decide +kernel
theorem dX5_ifRiffled_11 : decode cX5_ifRiffled 11 = .ok (.iconst 0, 1) := by decide +kernel
theorem dX5_ifRiffled_12 : decode cX5_ifRiffled 12 = .ok (.iconst 1, 1) := by decide +kernel
theorem dX5_ifRiffled_13 : decode cX5_ifRiffled 13 = .ok (.invokestatic 35, 3) := by decide +kernel
theorem dX5_ifRiffled_16 : decode cX5_ifRiffled 16 = .ok (.ifCond .eq 13, 3) := by decide +kernel
theorem dX5_ifRiffled_19 : decode cX5_ifRiffled 19 = .ok (.aload_n 0, 1) := by decide +kernel
theorem dX5_ifRiffled_20 : decode cX5_ifRiffled 20 = .ok (.iload_n 1, 1) := by decide +kernel
theorem dX5_ifRiffled_21 : decode cX5_ifRiffled 21 = .ok (.bipush (-6), 2) := by decide +kernel
theorem dX5_ifRiffled_23 : decode cX5_ifRiffled 23 = .ok (.invokevirtual 122, 3) := by decide +kernel
theorem dX5_ifRiffled_26 : decode cX5_ifRiffled 26 = .ok (.goto 5, 3) := by decide +kernel
theorem dX5_ifRiffled_29 : decode cX5_ifRiffled 29 = .ok (.bipush (-2), 2) := by decide +kernel
theorem dX5_ifRiffled_31 : decode cX5_ifRiffled 31 = .ok (.ireturn, 1) := by decide +kernel
theorem dX5_needed_0 : decode cX5_needed 0 = .ok (.iconst 1, 1) := by decide +kernel
theorem dX5_needed_1 : decode cX5_needed 1 = .ok (.istore_n 1, 1) := by decide +kernel
theorem dX5_needed_2 : decode cX5_needed 2 = .ok (.iload_n 1, 1) := by decide +kernel
theorem dX5_needed_3 : decode cX5_needed 3 = .ok (.bipush 20, 2) := by decide +kernel
theorem dX5_needed_5 : decode cX5_needed 5 = .ok (.if_icmp .gt 29, 3) := by decide +kernel
theorem dX5_needed_8 : decode cX5_needed 8 = .ok (.aload_n 0, 1) := by decide +kernel
theorem dX5_needed_9 : decode cX5_needed 9 = .ok (.iload_n 1, 1) := by decide +kernel
theorem dX5_needed_10 : decode cX5_needed 10 = .ok (.bipush (-6), 2) := by decide +kernel
theorem dX5_needed_12 : decode cX5_needed 12 = .ok (.invokevirtual 122, 3) := by decide +kernel
theorem dX5_needed_15 : decode cX5_needed 15 = .ok (.aload_n 0, 1) := by decide +kernel
theorem dX5_needed_16 : decode cX5_needed 16 = .ok (.getfield 7, 3) := by decide +kernel
theorem dX5_needed_19 : decode cX5_needed 19 = .ok (.sipush 324, 3) := by decide +kernel
theorem dX5_needed_22 : decode cX5_needed 22 = .ok (.iaload, 1) := by decide +kernel
theorem dX5_needed_23 : decode cX5_needed 23 = .ok (.if_icmp .gt 5, 3) := by decide +kernel
theorem dX5_needed_26 : decode cX5_needed 26 = .ok (.iload_n 1, 1) := by decide +kernel
theorem dX5_needed_27 : decode cX5_needed 27 = .ok (.ireturn, 1) := by decide +kernel
theorem dX5_needed_28 : decode cX5_needed 28 = .ok (.iinc 1 1, 3) := by decide +kernel
theorem dX5_needed_31 : decode cX5_needed 31 = .ok (.goto (-29), 3) := by decide +kernel
theorem dX5_needed_34 : decode cX5_needed 34 = .ok (.bipush (-6), 2) := by decide +kernel
theorem dX5_needed_36 : decode cX5_needed 36 = .ok (.ireturn, 1) := by decide +kernel
theorem dX5_worstBend_0 : decode cX5_worstBend 0 = .ok (.bipush (-6), 2) := by decide +kernel
theorem dX5_worstBend_2 : decode cX5_worstBend 2 = .ok (.istore_n 1, 1) := by decide +kernel
theorem dX5_worstBend_3 : decode cX5_worstBend 3 = .ok (.bipush 52, 2) := by decide +kernel
theorem dX5_worstBend_5 : decode cX5_worstBend 5 = .ok (.istore_n 2, 1) := by decide +kernel
theorem dX5_worstBend_6 : decode cX5_worstBend 6 = .ok (.iconst 0, 1) := by decide +kernel
theorem dX5_worstBend_7 : decode cX5_worstBend 7 = .ok (.istore_n 3, 1) := by decide +kernel
theorem dX5_worstBend_8 : decode cX5_worstBend 8 = .ok (.iload_n 3, 1) := by decide +kernel
theorem dX5_worstBend_9 : decode cX5_worstBend 9 = .ok (.bipush 52, 2) := by decide +kernel
theorem dX5_worstBend_11 : decode cX5_worstBend 11 = .ok (.if_icmp .ge 48, 3) := by decide +kernel
theorem dX5_worstBend_14 : decode cX5_worstBend 14 = .ok (.aload_n 0, 1) := by decide +kernel
theorem dX5_worstBend_15 : decode cX5_worstBend 15 = .ok (.getfield 7, 3) := by decide +kernel
theorem dX5_worstBend_18 : decode cX5_worstBend 18 = .ok (.bipush 52, 2) := by decide +kernel
theorem dX5_worstBend_20 : decode cX5_worstBend 20 = .ok (.iload_n 3, 1) := by decide +kernel
theorem dX5_worstBend_21 : decode cX5_worstBend 21 = .ok (.iadd, 1) := by decide +kernel
theorem dX5_worstBend_22 : decode cX5_worstBend 22 = .ok (.iaload, 1) := by decide +kernel
theorem dX5_worstBend_23 : decode cX5_worstBend 23 = .ok (.iconst 1, 1) := by decide +kernel
theorem dX5_worstBend_24 : decode cX5_worstBend 24 = .ok (.if_icmp .ne 29, 3) := by decide +kernel
theorem dX5_worstBend_27 : decode cX5_worstBend 27 = .ok (.aload_n 0, 1) := by decide +kernel
theorem dX5_worstBend_28 : decode cX5_worstBend 28 = .ok (.aload_n 0, 1) := by decide +kernel
theorem dX5_worstBend_29 : decode cX5_worstBend 29 = .ok (.getfield 7, 3) := by decide +kernel
theorem dX5_worstBend_32 : decode cX5_worstBend 32 = .ok (.sipush 325, 3) := by decide +kernel
theorem dX5_worstBend_35 : decode cX5_worstBend 35 = .ok (.iaload, 1) := by decide +kernel
theorem dX5_worstBend_36 : decode cX5_worstBend 36 = .ok (.iload_n 3, 1) := by decide +kernel
theorem dX5_worstBend_37 : decode cX5_worstBend 37 = .ok (.invokevirtual 122, 3) := by decide +kernel
theorem dX5_worstBend_40 : decode cX5_worstBend 40 = .ok (.istore 4, 2) := by decide +kernel
theorem dX5_worstBend_42 : decode cX5_worstBend 42 = .ok (.iload 4, 2) := by decide +kernel
theorem dX5_worstBend_44 : decode cX5_worstBend 44 = .ok (.iload_n 2, 1) := by decide +kernel
theorem dX5_worstBend_45 : decode cX5_worstBend 45 = .ok (.if_icmp .ge 8, 3) := by decide +kernel
theorem dX5_worstBend_48 : decode cX5_worstBend 48 = .ok (.iload_n 3, 1) := by decide +kernel
theorem dX5_worstBend_49 : decode cX5_worstBend 49 = .ok (.istore_n 1, 1) := by decide +kernel
theorem dX5_worstBend_50 : decode cX5_worstBend 50 = .ok (.iload 4, 2) := by decide +kernel
theorem dX5_worstBend_52 : decode cX5_worstBend 52 = .ok (.istore_n 2, 1) := by decide +kernel
theorem dX5_worstBend_53 : decode cX5_worstBend 53 = .ok (.iinc 3 1, 3) := by decide +kernel
theorem dX5_worstBend_56 : decode cX5_worstBend 56 = .ok (.goto (-48), 3) := by decide +kernel
theorem dX5_worstBend_59 : decode cX5_worstBend 59 = .ok (.iload_n 1, 1) := by decide +kernel
theorem dX5_worstBend_60 : decode cX5_worstBend 60 = .ok (.ireturn, 1) := by decide +kernel
theorem dX5_put_0 : decode cX5_put 0 = .ok (.iconst 0, 1) := by decide +kernel
theorem dX5_put_1 : decode cX5_put 1 = .ok (.istore_n 3, 1) := by decide +kernel
theorem dX5_put_2 : decode cX5_put 2 = .ok (.lload_n 1, 1) := by decide +kernel
theorem dX5_put_3 : decode cX5_put 3 = .ok (.lstore 4, 2) := by decide +kernel
theorem dX5_put_5 : decode cX5_put 5 = .ok (.lload_n 1, 1) := by decide +kernel
theorem dX5_put_6 : decode cX5_put 6 = .ok (.lconst 0, 1) := by decide +kernel
theorem dX5_put_7 : decode cX5_put 7 = .ok (.lcmp, 1) := by decide +kernel
theorem dX5_put_8 : decode cX5_put 8 = .ok (.ifCond .eq 7, 3) := by decide +kernel
theorem dX5_put_11 : decode cX5_put 11 = .ok (.iconst 1, 1) := by decide +kernel
theorem dX5_put_12 : decode cX5_put 12 = .ok (.goto 4, 3) := by decide +kernel
theorem dX5_put_15 : decode cX5_put 15 = .ok (.iconst 0, 1) := by decide +kernel
theorem dX5_put_16 : decode cX5_put 16 = .ok (.istore 6, 2) := by decide +kernel
theorem dX5_put_18 : decode cX5_put 18 = .ok (.lload 4, 2) := by decide +kernel
theorem dX5_put_20 : decode cX5_put 20 = .ok (.lconst 0, 1) := by decide +kernel
theorem dX5_put_21 : decode cX5_put 21 = .ok (.lcmp, 1) := by decide +kernel
theorem dX5_put_22 : decode cX5_put 22 = .ok (.ifCond .eq 45, 3) := by decide +kernel
theorem dX5_put_25 : decode cX5_put 25 = .ok (.iload 6, 2) := by decide +kernel
theorem dX5_put_27 : decode cX5_put 27 = .ok (.ifCond .eq 24, 3) := by decide +kernel
theorem dX5_put_30 : decode cX5_put 30 = .ok (.lload 4, 2) := by decide +kernel
theorem dX5_put_32 : decode cX5_put 32 = .ok (.ldc2_w 125, 3) := by decide +kernel
theorem dX5_put_35 : decode cX5_put 35 = .ok (.land, 1) := by decide +kernel
theorem dX5_put_36 : decode cX5_put 36 = .ok (.l2i, 1) := by decide +kernel
theorem dX5_put_37 : decode cX5_put 37 = .ok (.bipush 33, 2) := by decide +kernel
theorem dX5_put_39 : decode cX5_put 39 = .ok (.bipush 126, 2) := by decide +kernel
theorem dX5_put_41 : decode cX5_put 41 = .ok (.invokestatic 35, 3) := by decide +kernel
theorem dX5_put_44 : decode cX5_put 44 = .ok (.ifCond .eq 7, 3) := by decide +kernel
theorem dX5_put_47 : decode cX5_put 47 = .ok (.iconst 1, 1) := by decide +kernel
theorem dX5_put_48 : decode cX5_put 48 = .ok (.goto 4, 3) := by decide +kernel
theorem dX5_put_51 : decode cX5_put 51 = .ok (.iconst 0, 1) := by decide +kernel
theorem dX5_put_52 : decode cX5_put 52 = .ok (.istore 6, 2) := by decide +kernel
theorem dX5_put_54 : decode cX5_put 54 = .ok (.iinc 3 1, 3) := by decide +kernel
theorem dX5_put_57 : decode cX5_put 57 = .ok (.lload 4, 2) := by decide +kernel
theorem dX5_put_59 : decode cX5_put 59 = .ok (.bipush 8, 2) := by decide +kernel
theorem dX5_put_61 : decode cX5_put 61 = .ok (.lushr, 1) := by decide +kernel
theorem dX5_put_62 : decode cX5_put 62 = .ok (.lstore 4, 2) := by decide +kernel
theorem dX5_put_64 : decode cX5_put 64 = .ok (.goto (-46), 3) := by decide +kernel
theorem dX5_put_67 : decode cX5_put 67 = .ok (.iload 6, 2) := by decide +kernel
theorem dX5_put_69 : decode cX5_put 69 = .ok (.ifCond .ne 6, 3) := by decide +kernel
theorem dX5_put_72 : decode cX5_put 72 = .ok (.bipush (-2), 2) := by decide +kernel
theorem dX5_put_74 : decode cX5_put 74 = .ok (.ireturn, 1) := by decide +kernel
theorem dX5_put_75 : decode cX5_put 75 = .ok (.aload_n 0, 1) := by decide +kernel
theorem dX5_put_76 : decode cX5_put 76 = .ok (.getfield 83, 3) := by decide +kernel
theorem dX5_put_79 : decode cX5_put 79 = .ok (.iload_n 3, 1) := by decide +kernel
theorem dX5_put_80 : decode cX5_put 80 = .ok (.iadd, 1) := by decide +kernel
theorem dX5_put_81 : decode cX5_put 81 = .ok (.bipush 60, 2) := by decide +kernel
theorem dX5_put_83 : decode cX5_put 83 = .ok (.if_icmp .le 6, 3) := by decide +kernel
theorem dX5_put_86 : decode cX5_put 86 = .ok (.bipush (-4), 2) := by decide +kernel
theorem dX5_put_88 : decode cX5_put 88 = .ok (.ireturn, 1) := by decide +kernel
theorem dX5_put_89 : decode cX5_put 89 = .ok (.iload_n 3, 1) := by decide +kernel
theorem dX5_put_90 : decode cX5_put 90 = .ok (.iconst 1, 1) := by decide +kernel
theorem dX5_put_91 : decode cX5_put 91 = .ok (.isub, 1) := by decide +kernel
theorem dX5_put_92 : decode cX5_put 92 = .ok (.istore 7, 2) := by decide +kernel
theorem dX5_put_94 : decode cX5_put 94 = .ok (.iload 7, 2) := by decide +kernel
theorem dX5_put_96 : decode cX5_put 96 = .ok (.ifCond .lt 40, 3) := by decide +kernel
theorem dX5_put_99 : decode cX5_put 99 = .ok (.aload_n 0, 1) := by decide +kernel
theorem dX5_put_100 : decode cX5_put 100 = .ok (.getfield 26, 3) := by decide +kernel
theorem dX5_put_103 : decode cX5_put 103 = .ok (.aload_n 0, 1) := by decide +kernel
theorem dX5_put_104 : decode cX5_put 104 = .ok (.getfield 83, 3) := by decide +kernel
theorem dX5_put_107 : decode cX5_put 107 = .ok (.lload_n 1, 1) := by decide +kernel
theorem dX5_put_108 : decode cX5_put 108 = .ok (.bipush 8, 2) := by decide +kernel
theorem dX5_put_110 : decode cX5_put 110 = .ok (.iload 7, 2) := by decide +kernel
theorem dX5_put_112 : decode cX5_put 112 = .ok (.imul, 1) := by decide +kernel
theorem dX5_put_113 : decode cX5_put 113 = .ok (.lshr, 1) := by decide +kernel
theorem dX5_put_114 : decode cX5_put 114 = .ok (.ldc2_w 125, 3) := by decide +kernel
theorem dX5_put_117 : decode cX5_put 117 = .ok (.land, 1) := by decide +kernel
theorem dX5_put_118 : decode cX5_put 118 = .ok (.l2i, 1) := by decide +kernel
theorem dX5_put_119 : decode cX5_put 119 = .ok (.iastore, 1) := by decide +kernel
theorem dX5_put_120 : decode cX5_put 120 = .ok (.aload_n 0, 1) := by decide +kernel
theorem dX5_put_121 : decode cX5_put 121 = .ok (.dup, 1) := by decide +kernel
theorem dX5_put_122 : decode cX5_put 122 = .ok (.getfield 83, 3) := by decide +kernel
theorem dX5_put_125 : decode cX5_put 125 = .ok (.iconst 1, 1) := by decide +kernel
theorem dX5_put_126 : decode cX5_put 126 = .ok (.iadd, 1) := by decide +kernel
theorem dX5_put_127 : decode cX5_put 127 = .ok (.putfield 83, 3) := by decide +kernel
theorem dX5_put_130 : decode cX5_put 130 = .ok (.iinc 7 (-1), 3) := by decide +kernel
theorem dX5_put_133 : decode cX5_put 133 = .ok (.goto (-39), 3) := by decide +kernel
theorem dX5_put_136 : decode cX5_put 136 = .ok (.aload_n 0, 1) := by decide +kernel
theorem dX5_put_137 : decode cX5_put 137 = .ok (.getfield 83, 3) := by decide +kernel
theorem dX5_put_140 : decode cX5_put 140 = .ok (.ireturn, 1) := by decide +kernel
theorem dX5_wipe_0 : decode cX5_wipe 0 = .ok (.aload_n 0, 1) := by decide +kernel
theorem dX5_wipe_1 : decode cX5_wipe 1 = .ok (.getfield 83, 3) := by decide +kernel
theorem dX5_wipe_4 : decode cX5_wipe 4 = .ok (.istore_n 1, 1) := by decide +kernel
theorem dX5_wipe_5 : decode cX5_wipe 5 = .ok (.aload_n 0, 1) := by decide +kernel
theorem dX5_wipe_6 : decode cX5_wipe 6 = .ok (.iconst 0, 1) := by decide +kernel
theorem dX5_wipe_7 : decode cX5_wipe 7 = .ok (.putfield 83, 3) := by decide +kernel
theorem dX5_wipe_10 : decode cX5_wipe 10 = .ok (.iload_n 1, 1) := by decide +kernel
theorem dX5_wipe_11 : decode cX5_wipe 11 = .ok (.ireturn, 1) := by decide +kernel
theorem dX5_suitOf_0 : decode cX5_suitOf 0 = .ok (.iload_n 0, 1) := by decide +kernel
theorem dX5_suitOf_1 : decode cX5_suitOf 1 = .ok (.bipush 99, 2) := by decide +kernel
theorem dX5_suitOf_3 : decode cX5_suitOf 3 = .ok (.if_icmp .ne 7, 3) := by decide +kernel
theorem dX5_suitOf_6 : decode cX5_suitOf 6 = .ok (.iconst 0, 1) := by decide +kernel
theorem dX5_suitOf_7 : decode cX5_suitOf 7 = .ok (.goto 34, 3) := by decide +kernel
theorem dX5_suitOf_10 : decode cX5_suitOf 10 = .ok (.iload_n 0, 1) := by decide +kernel
theorem dX5_suitOf_11 : decode cX5_suitOf 11 = .ok (.bipush 100, 2) := by decide +kernel
theorem dX5_suitOf_13 : decode cX5_suitOf 13 = .ok (.if_icmp .ne 7, 3) := by decide +kernel
theorem dX5_suitOf_16 : decode cX5_suitOf 16 = .ok (.iconst 1, 1) := by decide +kernel
theorem dX5_suitOf_17 : decode cX5_suitOf 17 = .ok (.goto 24, 3) := by decide +kernel
theorem dX5_suitOf_20 : decode cX5_suitOf 20 = .ok (.iload_n 0, 1) := by decide +kernel
theorem dX5_suitOf_21 : decode cX5_suitOf 21 = .ok (.bipush 104, 2) := by decide +kernel
theorem dX5_suitOf_23 : decode cX5_suitOf 23 = .ok (.if_icmp .ne 7, 3) := by decide +kernel
theorem dX5_suitOf_26 : decode cX5_suitOf 26 = .ok (.iconst 2, 1) := by decide +kernel
theorem dX5_suitOf_27 : decode cX5_suitOf 27 = .ok (.goto 14, 3) := by decide +kernel
theorem dX5_suitOf_30 : decode cX5_suitOf 30 = .ok (.iload_n 0, 1) := by decide +kernel
theorem dX5_suitOf_31 : decode cX5_suitOf 31 = .ok (.bipush 115, 2) := by decide +kernel
theorem dX5_suitOf_33 : decode cX5_suitOf 33 = .ok (.if_icmp .ne 7, 3) := by decide +kernel
theorem dX5_suitOf_36 : decode cX5_suitOf 36 = .ok (.iconst 3, 1) := by decide +kernel
theorem dX5_suitOf_37 : decode cX5_suitOf 37 = .ok (.goto 4, 3) := by decide +kernel
theorem dX5_suitOf_40 : decode cX5_suitOf 40 = .ok (.iconst (-1), 1) := by decide +kernel
theorem dX5_suitOf_41 : decode cX5_suitOf 41 = .ok (.ireturn, 1) := by decide +kernel
theorem dX5_rankOf_0 : decode cX5_rankOf 0 = .ok (.iload_n 0, 1) := by decide +kernel
theorem dX5_rankOf_1 : decode cX5_rankOf 1 = .ok (.bipush 50, 2) := by decide +kernel
theorem dX5_rankOf_3 : decode cX5_rankOf 3 = .ok (.bipush 57, 2) := by decide +kernel
theorem dX5_rankOf_5 : decode cX5_rankOf 5 = .ok (.invokestatic 35, 3) := by decide +kernel
theorem dX5_rankOf_8 : decode cX5_rankOf 8 = .ok (.ifCond .eq 8, 3) := by decide +kernel
theorem dX5_rankOf_11 : decode cX5_rankOf 11 = .ok (.iload_n 0, 1) := by decide +kernel
theorem dX5_rankOf_12 : decode cX5_rankOf 12 = .ok (.bipush 50, 2) := by decide +kernel
theorem dX5_rankOf_14 : decode cX5_rankOf 14 = .ok (.isub, 1) := by decide +kernel
theorem dX5_rankOf_15 : decode cX5_rankOf 15 = .ok (.ireturn, 1) := by decide +kernel
theorem dX5_rankOf_16 : decode cX5_rankOf 16 = .ok (.iload_n 0, 1) := by decide +kernel
theorem dX5_rankOf_17 : decode cX5_rankOf 17 = .ok (.bipush 116, 2) := by decide +kernel
theorem dX5_rankOf_19 : decode cX5_rankOf 19 = .ok (.if_icmp .ne 8, 3) := by decide +kernel
theorem dX5_rankOf_22 : decode cX5_rankOf 22 = .ok (.bipush 8, 2) := by decide +kernel
theorem dX5_rankOf_24 : decode cX5_rankOf 24 = .ok (.goto 48, 3) := by decide +kernel
theorem dX5_rankOf_27 : decode cX5_rankOf 27 = .ok (.iload_n 0, 1) := by decide +kernel
theorem dX5_rankOf_28 : decode cX5_rankOf 28 = .ok (.bipush 106, 2) := by decide +kernel
theorem dX5_rankOf_30 : decode cX5_rankOf 30 = .ok (.if_icmp .ne 8, 3) := by decide +kernel
theorem dX5_rankOf_33 : decode cX5_rankOf 33 = .ok (.bipush 9, 2) := by decide +kernel
theorem dX5_rankOf_35 : decode cX5_rankOf 35 = .ok (.goto 37, 3) := by decide +kernel
theorem dX5_rankOf_38 : decode cX5_rankOf 38 = .ok (.iload_n 0, 1) := by decide +kernel
theorem dX5_rankOf_39 : decode cX5_rankOf 39 = .ok (.bipush 113, 2) := by decide +kernel
theorem dX5_rankOf_41 : decode cX5_rankOf 41 = .ok (.if_icmp .ne 8, 3) := by decide +kernel
theorem dX5_rankOf_44 : decode cX5_rankOf 44 = .ok (.bipush 10, 2) := by decide +kernel
theorem dX5_rankOf_46 : decode cX5_rankOf 46 = .ok (.goto 26, 3) := by decide +kernel
theorem dX5_rankOf_49 : decode cX5_rankOf 49 = .ok (.iload_n 0, 1) := by decide +kernel
theorem dX5_rankOf_50 : decode cX5_rankOf 50 = .ok (.bipush 107, 2) := by decide +kernel
theorem dX5_rankOf_52 : decode cX5_rankOf 52 = .ok (.if_icmp .ne 8, 3) := by decide +kernel
theorem dX5_rankOf_55 : decode cX5_rankOf 55 = .ok (.bipush 11, 2) := by decide +kernel
theorem dX5_rankOf_57 : decode cX5_rankOf 57 = .ok (.goto 15, 3) := by decide +kernel
theorem dX5_rankOf_60 : decode cX5_rankOf 60 = .ok (.iload_n 0, 1) := by decide +kernel
theorem dX5_rankOf_61 : decode cX5_rankOf 61 = .ok (.bipush 97, 2) := by decide +kernel
theorem dX5_rankOf_63 : decode cX5_rankOf 63 = .ok (.if_icmp .ne 8, 3) := by decide +kernel
theorem dX5_rankOf_66 : decode cX5_rankOf 66 = .ok (.bipush 12, 2) := by decide +kernel
theorem dX5_rankOf_68 : decode cX5_rankOf 68 = .ok (.goto 4, 3) := by decide +kernel
theorem dX5_rankOf_71 : decode cX5_rankOf 71 = .ok (.iconst (-1), 1) := by decide +kernel
theorem dX5_rankOf_72 : decode cX5_rankOf 72 = .ok (.ireturn, 1) := by decide +kernel
theorem dX5_findFault_0 : decode cX5_findFault 0 = .ok (.iconst 0, 1) := by decide +kernel
theorem dX5_findFault_1 : decode cX5_findFault 1 = .ok (.istore_n 1, 1) := by decide +kernel
theorem dX5_findFault_2 : decode cX5_findFault 2 = .ok (.iload_n 1, 1) := by decide +kernel
theorem dX5_findFault_3 : decode cX5_findFault 3 = .ok (.aload_n 0, 1) := by decide +kernel
theorem dX5_findFault_4 : decode cX5_findFault 4 = .ok (.getfield 83, 3) := by decide +kernel
theorem dX5_findFault_7 : decode cX5_findFault 7 = .ok (.if_icmp .ge 85, 3) := by decide +kernel
theorem dX5_findFault_10 : decode cX5_findFault 10 = .ok (.iload_n 1, 1) := by decide +kernel
theorem dX5_findFault_11 : decode cX5_findFault 11 = .ok (.iconst 3, 1) := by decide +kernel
theorem dX5_findFault_12 : decode cX5_findFault 12 = .ok (.irem, 1) := by decide +kernel
theorem dX5_findFault_13 : decode cX5_findFault 13 = .ok (.ifCond .ne 23, 3) := by decide +kernel
theorem dX5_findFault_16 : decode cX5_findFault 16 = .ok (.aload_n 0, 1) := by decide +kernel
theorem dX5_findFault_17 : decode cX5_findFault 17 = .ok (.getfield 26, 3) := by decide +kernel
theorem dX5_findFault_20 : decode cX5_findFault 20 = .ok (.iload_n 1, 1) := by decide +kernel
theorem dX5_findFault_21 : decode cX5_findFault 21 = .ok (.iaload, 1) := by decide +kernel
theorem dX5_findFault_22 : decode cX5_findFault 22 = .ok (.invokestatic 86, 3) := by decide +kernel
theorem dX5_findFault_25 : decode cX5_findFault 25 = .ok (.ifCond .lt 7, 3) := by decide +kernel
theorem dX5_findFault_28 : decode cX5_findFault 28 = .ok (.iconst 1, 1) := by decide +kernel
theorem dX5_findFault_29 : decode cX5_findFault 29 = .ok (.goto 50, 3) := by decide +kernel
theorem dX5_findFault_32 : decode cX5_findFault 32 = .ok (.iconst 0, 1) := by decide +kernel
theorem dX5_findFault_33 : decode cX5_findFault 33 = .ok (.goto 46, 3) := by decide +kernel
theorem dX5_findFault_36 : decode cX5_findFault 36 = .ok (.iload_n 1, 1) := by decide +kernel
theorem dX5_findFault_37 : decode cX5_findFault 37 = .ok (.iconst 3, 1) := by decide +kernel
theorem dX5_findFault_38 : decode cX5_findFault 38 = .ok (.irem, 1) := by decide +kernel
theorem dX5_findFault_39 : decode cX5_findFault 39 = .ok (.iconst 1, 1) := by decide +kernel
theorem dX5_findFault_40 : decode cX5_findFault 40 = .ok (.if_icmp .ne 23, 3) := by decide +kernel
theorem dX5_findFault_43 : decode cX5_findFault 43 = .ok (.aload_n 0, 1) := by decide +kernel
theorem dX5_findFault_44 : decode cX5_findFault 44 = .ok (.getfield 26, 3) := by decide +kernel
theorem dX5_findFault_47 : decode cX5_findFault 47 = .ok (.iload_n 1, 1) := by decide +kernel
theorem dX5_findFault_48 : decode cX5_findFault 48 = .ok (.iaload, 1) := by decide +kernel
theorem dX5_findFault_49 : decode cX5_findFault 49 = .ok (.invokestatic 89, 3) := by decide +kernel
theorem dX5_findFault_52 : decode cX5_findFault 52 = .ok (.ifCond .lt 7, 3) := by decide +kernel
theorem dX5_findFault_55 : decode cX5_findFault 55 = .ok (.iconst 1, 1) := by decide +kernel
theorem dX5_findFault_56 : decode cX5_findFault 56 = .ok (.goto 23, 3) := by decide +kernel
theorem dX5_findFault_59 : decode cX5_findFault 59 = .ok (.iconst 0, 1) := by decide +kernel
theorem dX5_findFault_60 : decode cX5_findFault 60 = .ok (.goto 19, 3) := by decide +kernel
theorem dX5_findFault_63 : decode cX5_findFault 63 = .ok (.aload_n 0, 1) := by decide +kernel
theorem dX5_findFault_64 : decode cX5_findFault 64 = .ok (.getfield 26, 3) := by decide +kernel
theorem dX5_findFault_67 : decode cX5_findFault 67 = .ok (.iload_n 1, 1) := by decide +kernel
theorem dX5_findFault_68 : decode cX5_findFault 68 = .ok (.iaload, 1) := by decide +kernel
theorem dX5_findFault_69 : decode cX5_findFault 69 = .ok (.bipush 44, 2) := by decide +kernel
theorem dX5_findFault_71 : decode cX5_findFault 71 = .ok (.if_icmp .ne 7, 3) := by decide +kernel
theorem dX5_findFault_74 : decode cX5_findFault 74 = .ok (.iconst 1, 1) := by decide +kernel
theorem dX5_findFault_75 : decode cX5_findFault 75 = .ok (.goto 4, 3) := by decide +kernel
theorem dX5_findFault_78 : decode cX5_findFault 78 = .ok (.iconst 0, 1) := by decide +kernel
theorem dX5_findFault_79 : decode cX5_findFault 79 = .ok (.istore_n 2, 1) := by decide +kernel
theorem dX5_findFault_80 : decode cX5_findFault 80 = .ok (.iload_n 2, 1) := by decide +kernel
theorem dX5_findFault_81 : decode cX5_findFault 81 = .ok (.ifCond .ne 5, 3) := by decide +kernel
theorem dX5_findFault_84 : decode cX5_findFault 84 = .ok (.iload_n 1, 1) := by decide +kernel
theorem dX5_findFault_85 : decode cX5_findFault 85 = .ok (.ireturn, 1) := by decide +kernel
theorem dX5_findFault_86 : decode cX5_findFault 86 = .ok (.iinc 1 1, 3) := by decide +kernel
theorem dX5_findFault_89 : decode cX5_findFault 89 = .ok (.goto (-87), 3) := by decide +kernel
theorem dX5_findFault_92 : decode cX5_findFault 92 = .ok (.aload_n 0, 1) := by decide +kernel
theorem dX5_findFault_93 : decode cX5_findFault 93 = .ok (.getfield 83, 3) := by decide +kernel
theorem dX5_findFault_96 : decode cX5_findFault 96 = .ok (.iconst 3, 1) := by decide +kernel
theorem dX5_findFault_97 : decode cX5_findFault 97 = .ok (.irem, 1) := by decide +kernel
theorem dX5_findFault_98 : decode cX5_findFault 98 = .ok (.iconst 2, 1) := by decide +kernel
theorem dX5_findFault_99 : decode cX5_findFault 99 = .ok (.if_icmp .ne 8, 3) := by decide +kernel
theorem dX5_findFault_102 : decode cX5_findFault 102 = .ok (.bipush (-6), 2) := by decide +kernel
theorem dX5_findFault_104 : decode cX5_findFault 104 = .ok (.goto 7, 3) := by decide +kernel
theorem dX5_findFault_107 : decode cX5_findFault 107 = .ok (.aload_n 0, 1) := by decide +kernel
theorem dX5_findFault_108 : decode cX5_findFault 108 = .ok (.getfield 83, 3) := by decide +kernel
theorem dX5_findFault_111 : decode cX5_findFault 111 = .ok (.ireturn, 1) := by decide +kernel
theorem dX5_fault_0 : decode cX5_fault 0 = .ok (.aload_n 0, 1) := by decide +kernel
theorem dX5_fault_1 : decode cX5_fault 1 = .ok (.invokevirtual 80, 3) := by decide +kernel
theorem dX5_fault_4 : decode cX5_fault 4 = .ok (.ireturn, 1) := by decide +kernel
