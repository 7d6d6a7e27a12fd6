theorem dJ9_max_7cf53_0 : decode cJ9_max_7cf53 0 = .ok (.iload_n 0, 1) := by decide +kernel
theorem dJ9_max_7cf53_1 : decode cJ9_max_7cf53 1 = .ok (.iload_n 1, 1) := by decide +kernel
theorem dJ9_max_7cf53_2 : decode cJ9_max_7cf53 2 = .ok (.if_icmp .lt 7, 3) := by decide +kernel
theorem dJ9_max_7cf53_5 : decode cJ9_max_7cf53 5 = .ok (.iload_n 0, 1) := by decide +kernel
theorem dJ9_max_7cf53_6 : decode cJ9_max_7cf53 6 = .ok (.goto 4, 3) := by decide +kernel
theorem dJ9_max_7cf53_9 : decode cJ9_max_7cf53 9 = .ok (.iload_n 1, 1) := by decide +kernel
theorem dJ9_max_7cf53_10 : decode cJ9_max_7cf53 10 = .ok (.ireturn, 1) := by decide +kernel
theorem dL_cell_0 : decode cL_cell 0 = .ok (.iload_n 1, 1) := by decide +kernel
theorem dL_cell_1 : decode cL_cell 1 = .ok (.aload_n 0, 1) := by decide +kernel
theorem dL_cell_2 : decode cL_cell 2 = .ok (.arraylength, 1) := by decide +kernel
theorem dL_cell_3 : decode cL_cell 3 = .ok (.if_icmp .ge 9, 3) := by decide +kernel
theorem dL_cell_6 : decode cL_cell 6 = .ok (.aload_n 0, 1) := by decide +kernel
theorem dL_cell_7 : decode cL_cell 7 = .ok (.iload_n 1, 1) := by decide +kernel
theorem dL_cell_8 : decode cL_cell 8 = .ok (.iaload, 1) := by decide +kernel
theorem dL_cell_9 : decode cL_cell 9 = .ok (.goto 9, 3) := by decide +kernel
theorem dL_cell_12 : decode cL_cell 12 = .ok (.ldc 7, 2) := by decide +kernel
theorem dL_cell_14 : decode cL_cell 14 = .ok (.iload_n 1, 1) := by decide +kernel
theorem dL_cell_15 : decode cL_cell 15 = .ok (.iconst 1, 1) := by decide +kernel
theorem dL_cell_16 : decode cL_cell 16 = .ok (.iadd, 1) := by decide +kernel
theorem dL_cell_17 : decode cL_cell 17 = .ok (.imul, 1) := by decide +kernel
theorem dL_cell_18 : decode cL_cell 18 = .ok (.ireturn, 1) := by decide +kernel
theorem dL_low_0 : decode cL_low 0 = .ok (.iload_n 0, 1) := by decide +kernel
theorem dL_low_1 : decode cL_low 1 = .ok (.ldc 8, 2) := by decide +kernel
theorem dL_low_3 : decode cL_low 3 = .ok (.iand, 1) := by decide +kernel
theorem dL_low_4 : decode cL_low 4 = .ok (.iload_n 1, 1) := by decide +kernel
theorem dL_low_5 : decode cL_low 5 = .ok (.irem, 1) := by decide +kernel
theorem dL_low_6 : decode cL_low 6 = .ok (.ireturn, 1) := by decide +kernel
theorem dL_draw_0 : decode cL_draw 0 = .ok (.aload_n 0, 1) := by decide +kernel
theorem dL_draw_1 : decode cL_draw 1 = .ok (.iconst 2, 1) := by decide +kernel
theorem dL_draw_2 : decode cL_draw 2 = .ok (.iaload, 1) := by decide +kernel
theorem dL_draw_3 : decode cL_draw 3 = .ok (.i2l, 1) := by decide +kernel
theorem dL_draw_4 : decode cL_draw 4 = .ok (.ldc2_w 9, 3) := by decide +kernel
theorem dL_draw_7 : decode cL_draw 7 = .ok (.lmul, 1) := by decide +kernel
theorem dL_draw_8 : decode cL_draw 8 = .ok (.ldc2_w 11, 3) := by decide +kernel
theorem dL_draw_11 : decode cL_draw 11 = .ok (.ladd, 1) := by decide +kernel
theorem dL_draw_12 : decode cL_draw 12 = .ok (.lstore_n 2, 1) := by decide +kernel
theorem dL_draw_13 : decode cL_draw 13 = .ok (.aload_n 0, 1) := by decide +kernel
theorem dL_draw_14 : decode cL_draw 14 = .ok (.iconst 2, 1) := by decide +kernel
theorem dL_draw_15 : decode cL_draw 15 = .ok (.lload_n 2, 1) := by decide +kernel
theorem dL_draw_16 : decode cL_draw 16 = .ok (.ldc2_w 13, 3) := by decide +kernel
theorem dL_draw_19 : decode cL_draw 19 = .ok (.land, 1) := by decide +kernel
theorem dL_draw_20 : decode cL_draw 20 = .ok (.l2i, 1) := by decide +kernel
theorem dL_draw_21 : decode cL_draw 21 = .ok (.iastore, 1) := by decide +kernel
theorem dL_draw_22 : decode cL_draw 22 = .ok (.aload_n 0, 1) := by decide +kernel
theorem dL_draw_23 : decode cL_draw 23 = .ok (.iconst 2, 1) := by decide +kernel
theorem dL_draw_24 : decode cL_draw 24 = .ok (.iaload, 1) := by decide +kernel
theorem dL_draw_25 : decode cL_draw 25 = .ok (.bipush 16, 2) := by decide +kernel
theorem dL_draw_27 : decode cL_draw 27 = .ok (.ishr, 1) := by decide +kernel
theorem dL_draw_28 : decode cL_draw 28 = .ok (.iload_n 1, 1) := by decide +kernel
theorem dL_draw_29 : decode cL_draw 29 = .ok (.irem, 1) := by decide +kernel
theorem dL_draw_30 : decode cL_draw 30 = .ok (.ireturn, 1) := by decide +kernel
theorem dL_riffle_0 : decode cL_riffle 0 = .ok (.aload_n 0, 1) := by decide +kernel
theorem dL_riffle_1 : decode cL_riffle 1 = .ok (.aload 4, 2) := by decide +kernel
theorem dL_riffle_3 : decode cL_riffle 3 = .ok (.invokestatic 15, 3) := by decide +kernel
theorem dL_riffle_6 : decode cL_riffle 6 = .ok (.bipush 24, 2) := by decide +kernel
theorem dL_riffle_8 : decode cL_riffle 8 = .ok (.aload_n 2, 1) := by decide +kernel
theorem dL_riffle_9 : decode cL_riffle 9 = .ok (.iconst 5, 1) := by decide +kernel
theorem dL_riffle_10 : decode cL_riffle 10 = .ok (.invokestatic 21, 3) := by decide +kernel
theorem dL_riffle_13 : decode cL_riffle 13 = .ok (.iadd, 1) := by decide +kernel
theorem dL_riffle_14 : decode cL_riffle 14 = .ok (.istore 5, 2) := by decide +kernel
theorem dL_riffle_16 : decode cL_riffle 16 = .ok (.iload 5, 2) := by decide +kernel
theorem dL_riffle_18 : decode cL_riffle 18 = .ok (.istore 6, 2) := by decide +kernel
theorem dL_riffle_20 : decode cL_riffle 20 = .ok (.bipush 52, 2) := by decide +kernel
theorem dL_riffle_22 : decode cL_riffle 22 = .ok (.iload 5, 2) := by decide +kernel
theorem dL_riffle_24 : decode cL_riffle 24 = .ok (.isub, 1) := by decide +kernel
theorem dL_riffle_25 : decode cL_riffle 25 = .ok (.istore 7, 2) := by decide +kernel
theorem dL_riffle_27 : decode cL_riffle 27 = .ok (.iconst 0, 1) := by decide +kernel
theorem dL_riffle_28 : decode cL_riffle 28 = .ok (.istore 8, 2) := by decide +kernel
theorem dL_riffle_30 : decode cL_riffle 30 = .ok (.iload 6, 2) := by decide +kernel
theorem dL_riffle_32 : decode cL_riffle 32 = .ok (.ifCond .le 144, 3) := by decide +kernel
theorem dL_riffle_35 : decode cL_riffle 35 = .ok (.iload 7, 2) := by decide +kernel
theorem dL_riffle_37 : decode cL_riffle 37 = .ok (.ifCond .le 139, 3) := by decide +kernel
theorem dL_riffle_40 : decode cL_riffle 40 = .ok (.aload_n 2, 1) := by decide +kernel
theorem dL_riffle_41 : decode cL_riffle 41 = .ok (.iload 6, 2) := by decide +kernel
theorem dL_riffle_43 : decode cL_riffle 43 = .ok (.iload 7, 2) := by decide +kernel
theorem dL_riffle_45 : decode cL_riffle 45 = .ok (.iadd, 1) := by decide +kernel
theorem dL_riffle_46 : decode cL_riffle 46 = .ok (.invokestatic 21, 3) := by decide +kernel
theorem dL_riffle_49 : decode cL_riffle 49 = .ok (.iload 6, 2) := by decide +kernel
theorem dL_riffle_51 : decode cL_riffle 51 = .ok (.if_icmp .ge 7, 3) := by decide +kernel
theorem dL_riffle_54 : decode cL_riffle 54 = .ok (.iconst 1, 1) := by decide +kernel
theorem dL_riffle_55 : decode cL_riffle 55 = .ok (.goto 4, 3) := by decide +kernel
theorem dL_riffle_58 : decode cL_riffle 58 = .ok (.iconst 0, 1) := by decide +kernel
theorem dL_riffle_59 : decode cL_riffle 59 = .ok (.istore 9, 2) := by decide +kernel
theorem dL_riffle_61 : decode cL_riffle 61 = .ok (.iconst 1, 1) := by decide +kernel
theorem dL_riffle_62 : decode cL_riffle 62 = .ok (.istore 10, 2) := by decide +kernel
theorem dL_riffle_64 : decode cL_riffle 64 = .ok (.iload 10, 2) := by decide +kernel
theorem dL_riffle_66 : decode cL_riffle 66 = .ok (.ifCond .eq 107, 3) := by decide +kernel
theorem dL_riffle_69 : decode cL_riffle 69 = .ok (.aload_n 0, 1) := by decide +kernel
theorem dL_riffle_70 : decode cL_riffle 70 = .ok (.iload 8, 2) := by decide +kernel
theorem dL_riffle_72 : decode cL_riffle 72 = .ok (.iload 9, 2) := by decide +kernel
theorem dL_riffle_74 : decode cL_riffle 74 = .ok (.ifCond .eq 14, 3) := by decide +kernel
theorem dL_riffle_77 : decode cL_riffle 77 = .ok (.aload 4, 2) := by decide +kernel
theorem dL_riffle_79 : decode cL_riffle 79 = .ok (.iload 5, 2) := by decide +kernel
theorem dL_riffle_81 : decode cL_riffle 81 = .ok (.iload 6, 2) := by decide +kernel
theorem dL_riffle_83 : decode cL_riffle 83 = .ok (.isub, 1) := by decide +kernel
theorem dL_riffle_84 : decode cL_riffle 84 = .ok (.iaload, 1) := by decide +kernel
theorem dL_riffle_85 : decode cL_riffle 85 = .ok (.goto 11, 3) := by decide +kernel
theorem dL_riffle_88 : decode cL_riffle 88 = .ok (.aload 4, 2) := by decide +kernel
theorem dL_riffle_90 : decode cL_riffle 90 = .ok (.bipush 52, 2) := by decide +kernel
theorem dL_riffle_92 : decode cL_riffle 92 = .ok (.iload 7, 2) := by decide +kernel
theorem dL_riffle_94 : decode cL_riffle 94 = .ok (.isub, 1) := by decide +kernel
theorem dL_riffle_95 : decode cL_riffle 95 = .ok (.iaload, 1) := by decide +kernel
theorem dL_riffle_96 : decode cL_riffle 96 = .ok (.iastore, 1) := by decide +kernel
theorem dL_riffle_97 : decode cL_riffle 97 = .ok (.iload 6, 2) := by decide +kernel
theorem dL_riffle_99 : decode cL_riffle 99 = .ok (.iload 9, 2) := by decide +kernel
theorem dL_riffle_101 : decode cL_riffle 101 = .ok (.ifCond .eq 7, 3) := by decide +kernel
theorem dL_riffle_104 : decode cL_riffle 104 = .ok (.iconst 1, 1) := by decide +kernel
theorem dL_riffle_105 : decode cL_riffle 105 = .ok (.goto 4, 3) := by decide +kernel
theorem dL_riffle_108 : decode cL_riffle 108 = .ok (.iconst 0, 1) := by decide +kernel
theorem dL_riffle_109 : decode cL_riffle 109 = .ok (.isub, 1) := by decide +kernel
theorem dL_riffle_110 : decode cL_riffle 110 = .ok (.istore 6, 2) := by decide +kernel
theorem dL_riffle_112 : decode cL_riffle 112 = .ok (.iload 7, 2) := by decide +kernel
theorem dL_riffle_114 : decode cL_riffle 114 = .ok (.iload 9, 2) := by decide +kernel
theorem dL_riffle_116 : decode cL_riffle 116 = .ok (.ifCond .eq 7, 3) := by decide +kernel
theorem dL_riffle_119 : decode cL_riffle 119 = .ok (.iconst 0, 1) := by decide +kernel
theorem dL_riffle_120 : decode cL_riffle 120 = .ok (.goto 4, 3) := by decide +kernel
theorem dL_riffle_123 : decode cL_riffle 123 = .ok (.iconst 1, 1) := by decide +kernel
theorem dL_riffle_124 : decode cL_riffle 124 = .ok (.isub, 1) := by decide +kernel
theorem dL_riffle_125 : decode cL_riffle 125 = .ok (.istore 7, 2) := by decide +kernel
theorem dL_riffle_127 : decode cL_riffle 127 = .ok (.aload_n 1, 1) := by decide +kernel
theorem dL_riffle_128 : decode cL_riffle 128 = .ok (.aload_n 0, 1) := by decide +kernel
theorem dL_riffle_129 : decode cL_riffle 129 = .ok (.iload 8, 2) := by decide +kernel
theorem dL_riffle_131 : decode cL_riffle 131 = .ok (.iaload, 1) := by decide +kernel
theorem dL_riffle_132 : decode cL_riffle 132 = .ok (.iaload, 1) := by decide +kernel
theorem dL_riffle_133 : decode cL_riffle 133 = .ok (.iconst 1, 1) := by decide +kernel
theorem dL_riffle_134 : decode cL_riffle 134 = .ok (.if_icmp .ne 30, 3) := by decide +kernel
theorem dL_riffle_137 : decode cL_riffle 137 = .ok (.aload_n 0, 1) := by decide +kernel
theorem dL_riffle_138 : decode cL_riffle 138 = .ok (.iload 8, 2) := by decide +kernel
theorem dL_riffle_140 : decode cL_riffle 140 = .ok (.iaload, 1) := by decide +kernel
theorem dL_riffle_141 : decode cL_riffle 141 = .ok (.iload_n 3, 1) := by decide +kernel
theorem dL_riffle_142 : decode cL_riffle 142 = .ok (.if_icmp .eq 22, 3) := by decide +kernel
theorem dL_riffle_145 : decode cL_riffle 145 = .ok (.iload 9, 2) := by decide +kernel
theorem dL_riffle_147 : decode cL_riffle 147 = .ok (.ifCond .eq 8, 3) := by decide +kernel
theorem dL_riffle_150 : decode cL_riffle 150 = .ok (.iload 6, 2) := by decide +kernel
theorem dL_riffle_152 : decode cL_riffle 152 = .ok (.goto 5, 3) := by decide +kernel
theorem dL_riffle_155 : decode cL_riffle 155 = .ok (.iload 7, 2) := by decide +kernel
theorem dL_riffle_157 : decode cL_riffle 157 = .ok (.ifCond .le 7, 3) := by decide +kernel
theorem dL_riffle_160 : decode cL_riffle 160 = .ok (.iconst 1, 1) := by decide +kernel
theorem dL_riffle_161 : decode cL_riffle 161 = .ok (.goto 4, 3) := by decide +kernel
theorem dL_riffle_164 : decode cL_riffle 164 = .ok (.iconst 0, 1) := by decide +kernel
theorem dL_riffle_165 : decode cL_riffle 165 = .ok (.istore 10, 2) := by decide +kernel
theorem dL_riffle_167 : decode cL_riffle 167 = .ok (.iinc 8 1, 3) := by decide +kernel
theorem dL_riffle_170 : decode cL_riffle 170 = .ok (.goto (-106), 3) := by decide +kernel
theorem dL_riffle_173 : decode cL_riffle 173 = .ok (.goto (-143), 3) := by decide +kernel
theorem dL_riffle_176 : decode cL_riffle 176 = .ok (.iload 6, 2) := by decide +kernel
theorem dL_riffle_178 : decode cL_riffle 178 = .ok (.ifCond .le 24, 3) := by decide +kernel
theorem dL_riffle_181 : decode cL_riffle 181 = .ok (.aload_n 0, 1) := by decide +kernel
theorem dL_riffle_182 : decode cL_riffle 182 = .ok (.iload 8, 2) := by decide +kernel
theorem dL_riffle_184 : decode cL_riffle 184 = .ok (.iinc 8 1, 3) := by decide +kernel
theorem dL_riffle_187 : decode cL_riffle 187 = .ok (.aload 4, 2) := by decide +kernel
theorem dL_riffle_189 : decode cL_riffle 189 = .ok (.iload 5, 2) := by decide +kernel
theorem dL_riffle_191 : decode cL_riffle 191 = .ok (.iload 6, 2) := by decide +kernel
theorem dL_riffle_193 : decode cL_riffle 193 = .ok (.isub, 1) := by decide +kernel
theorem dL_riffle_194 : decode cL_riffle 194 = .ok (.iaload, 1) := by decide +kernel
theorem dL_riffle_195 : decode cL_riffle 195 = .ok (.iastore, 1) := by decide +kernel
theorem dL_riffle_196 : decode cL_riffle 196 = .ok (.iinc 6 (-1), 3) := by decide +kernel
theorem dL_riffle_199 : decode cL_riffle 199 = .ok (.goto (-23), 3) := by decide +kernel
theorem dL_riffle_202 : decode cL_riffle 202 = .ok (.iload 7, 2) := by decide +kernel
theorem dL_riffle_204 : decode cL_riffle 204 = .ok (.ifCond .le 24, 3) := by decide +kernel
theorem dL_riffle_207 : decode cL_riffle 207 = .ok (.aload_n 0, 1) := by decide +kernel
theorem dL_riffle_208 : decode cL_riffle 208 = .ok (.iload 8, 2) := by decide +kernel
theorem dL_riffle_210 : decode cL_riffle 210 = .ok (.iinc 8 1, 3) := by decide +kernel
theorem dL_riffle_213 : decode cL_riffle 213 = .ok (.aload 4, 2) := by decide +kernel
theorem dL_riffle_215 : decode cL_riffle 215 = .ok (.bipush 52, 2) := by decide +kernel
theorem dL_riffle_217 : decode cL_riffle 217 = .ok (.iload 7, 2) := by decide +kernel
theorem dL_riffle_219 : decode cL_riffle 219 = .ok (.isub, 1) := by decide +kernel
theorem dL_riffle_220 : decode cL_riffle 220 = .ok (.iaload, 1) := by decide +kernel
theorem dL_riffle_221 : decode cL_riffle 221 = .ok (.iastore, 1) := by decide +kernel
theorem dL_riffle_222 : decode cL_riffle 222 = .ok (.iinc 7 (-1), 3) := by decide +kernel
theorem dL_riffle_225 : decode cL_riffle 225 = .ok (.goto (-23), 3) := by decide +kernel
theorem dL_riffle_228 : decode cL_riffle 228 = .ok (.return_, 1) := by decide +kernel
theorem dL_kept_0 : decode cL_kept 0 = .ok (.iconst 0, 1) := by decide +kernel
theorem dL_kept_1 : decode cL_kept 1 = .ok (.istore_n 2, 1) := by decide +kernel
theorem dL_kept_2 : decode cL_kept 2 = .ok (.iconst 0, 1) := by decide +kernel
theorem dL_kept_3 : decode cL_kept 3 = .ok (.istore_n 3, 1) := by decide +kernel
theorem dL_kept_4 : decode cL_kept 4 = .ok (.iload_n 3, 1) := by decide +kernel
theorem dL_kept_5 : decode cL_kept 5 = .ok (.bipush 51, 2) := by decide +kernel
theorem dL_kept_7 : decode cL_kept 7 = .ok (.if_icmp .ge 57, 3) := by decide +kernel
theorem dL_kept_10 : decode cL_kept 10 = .ok (.iconst 0, 1) := by decide +kernel
theorem dL_kept_11 : decode cL_kept 11 = .ok (.istore 4, 2) := by decide +kernel
theorem dL_kept_13 : decode cL_kept 13 = .ok (.aload_n 1, 1) := by decide +kernel
theorem dL_kept_14 : decode cL_kept 14 = .ok (.iload 4, 2) := by decide +kernel
theorem dL_kept_16 : decode cL_kept 16 = .ok (.iaload, 1) := by decide +kernel
theorem dL_kept_17 : decode cL_kept 17 = .ok (.aload_n 0, 1) := by decide +kernel
theorem dL_kept_18 : decode cL_kept 18 = .ok (.iload_n 3, 1) := by decide +kernel
theorem dL_kept_19 : decode cL_kept 19 = .ok (.iaload, 1) := by decide +kernel
theorem dL_kept_20 : decode cL_kept 20 = .ok (.if_icmp .eq 9, 3) := by decide +kernel
theorem dL_kept_23 : decode cL_kept 23 = .ok (.iinc 4 1, 3) := by decide +kernel
theorem dL_kept_26 : decode cL_kept 26 = .ok (.goto (-13), 3) := by decide +kernel
theorem dL_kept_29 : decode cL_kept 29 = .ok (.iload_n 2, 1) := by decide +kernel
theorem dL_kept_30 : decode cL_kept 30 = .ok (.iload 4, 2) := by decide +kernel
theorem dL_kept_32 : decode cL_kept 32 = .ok (.bipush 51, 2) := by decide +kernel
theorem dL_kept_34 : decode cL_kept 34 = .ok (.if_icmp .ge 21, 3) := by decide +kernel
theorem dL_kept_37 : decode cL_kept 37 = .ok (.aload_n 1, 1) := by decide +kernel
theorem dL_kept_38 : decode cL_kept 38 = .ok (.iload 4, 2) := by decide +kernel
theorem dL_kept_40 : decode cL_kept 40 = .ok (.iconst 1, 1) := by decide +kernel
theorem dL_kept_41 : decode cL_kept 41 = .ok (.iadd, 1) := by decide +kernel
theorem dL_kept_42 : decode cL_kept 42 = .ok (.iaload, 1) := by decide +kernel
theorem dL_kept_43 : decode cL_kept 43 = .ok (.aload_n 0, 1) := by decide +kernel
theorem dL_kept_44 : decode cL_kept 44 = .ok (.iload_n 3, 1) := by decide +kernel
theorem dL_kept_45 : decode cL_kept 45 = .ok (.iconst 1, 1) := by decide +kernel
theorem dL_kept_46 : decode cL_kept 46 = .ok (.iadd, 1) := by decide +kernel
theorem dL_kept_47 : decode cL_kept 47 = .ok (.iaload, 1) := by decide +kernel
theorem dL_kept_48 : decode cL_kept 48 = .ok (.if_icmp .ne 7, 3) := by decide +kernel
theorem dL_kept_51 : decode cL_kept 51 = .ok (.iconst 1, 1) := by decide +kernel
theorem dL_kept_52 : decode cL_kept 52 = .ok (.goto 4, 3) := by decide +kernel
theorem dL_kept_55 : decode cL_kept 55 = .ok (.iconst 0, 1) := by decide +kernel
theorem dL_kept_56 : decode cL_kept 56 = .ok (.iadd, 1) := by decide +kernel
theorem dL_kept_57 : decode cL_kept 57 = .ok (.istore_n 2, 1) := by decide +kernel
theorem dL_kept_58 : decode cL_kept 58 = .ok (.iinc 3 1, 3) := by decide +kernel
theorem dL_kept_61 : decode cL_kept 61 = .ok (.goto (-57), 3) := by decide +kernel
theorem dL_kept_64 : decode cL_kept 64 = .ok (.iload_n 2, 1) := by decide +kernel
theorem dL_kept_65 : decode cL_kept 65 = .ok (.ireturn, 1) := by decide +kernel
theorem dL_copy_0 : decode cL_copy 0 = .ok (.iconst 0, 1) := by decide +kernel
theorem dL_copy_1 : decode cL_copy 1 = .ok (.istore_n 2, 1) := by decide +kernel
theorem dL_copy_2 : decode cL_copy 2 = .ok (.iload_n 2, 1) := by decide +kernel
theorem dL_copy_3 : decode cL_copy 3 = .ok (.aload_n 0, 1) := by decide +kernel
theorem dL_copy_4 : decode cL_copy 4 = .ok (.arraylength, 1) := by decide +kernel
theorem dL_copy_5 : decode cL_copy 5 = .ok (.if_icmp .ge 15, 3) := by decide +kernel
theorem dL_copy_8 : decode cL_copy 8 = .ok (.aload_n 1, 1) := by decide +kernel
theorem dL_copy_9 : decode cL_copy 9 = .ok (.iload_n 2, 1) := by decide +kernel
theorem dL_copy_10 : decode cL_copy 10 = .ok (.aload_n 0, 1) := by decide +kernel
theorem dL_copy_11 : decode cL_copy 11 = .ok (.iload_n 2, 1) := by decide +kernel
theorem dL_copy_12 : decode cL_copy 12 = .ok (.iaload, 1) := by decide +kernel
theorem dL_copy_13 : decode cL_copy 13 = .ok (.iastore, 1) := by decide +kernel
theorem dL_copy_14 : decode cL_copy 14 = .ok (.iinc 2 1, 3) := by decide +kernel
theorem dL_copy_17 : decode cL_copy 17 = .ok (.goto (-15), 3) := by decide +kernel
theorem dL_copy_20 : decode cL_copy 20 = .ok (.return_, 1) := by decide +kernel
theorem dL_keptIf_0 : decode cL_keptIf 0 = .ok (.aload_n 0, 1) := by decide +kernel
theorem dL_keptIf_1 : decode cL_keptIf 1 = .ok (.aload 5, 2) := by decide +kernel
theorem dL_keptIf_3 : decode cL_keptIf 3 = .ok (.invokestatic 15, 3) := by decide +kernel
theorem dL_keptIf_6 : decode cL_keptIf 6 = .ok (.aload_n 2, 1) := by decide +kernel
theorem dL_keptIf_7 : decode cL_keptIf 7 = .ok (.aload 7, 2) := by decide +kernel
theorem dL_keptIf_9 : decode cL_keptIf 9 = .ok (.invokestatic 15, 3) := by decide +kernel
theorem dL_keptIf_12 : decode cL_keptIf 12 = .ok (.iconst 0, 1) := by decide +kernel
theorem dL_keptIf_13 : decode cL_keptIf 13 = .ok (.istore 8, 2) := by decide +kernel
theorem dL_keptIf_15 : decode cL_keptIf 15 = .ok (.iload 8, 2) := by decide +kernel
theorem dL_keptIf_17 : decode cL_keptIf 17 = .ok (.iload_n 3, 1) := by decide +kernel
theorem dL_keptIf_18 : decode cL_keptIf 18 = .ok (.if_icmp .ge 21, 3) := by decide +kernel
theorem dL_keptIf_21 : decode cL_keptIf 21 = .ok (.aload 5, 2) := by decide +kernel
theorem dL_keptIf_23 : decode cL_keptIf 23 = .ok (.aload_n 1, 1) := by decide +kernel
theorem dL_keptIf_24 : decode cL_keptIf 24 = .ok (.aload 7, 2) := by decide +kernel
theorem dL_keptIf_26 : decode cL_keptIf 26 = .ok (.iload 4, 2) := by decide +kernel
theorem dL_keptIf_28 : decode cL_keptIf 28 = .ok (.aload 6, 2) := by decide +kernel
theorem dL_keptIf_30 : decode cL_keptIf 30 = .ok (.invokestatic 25, 3) := by decide +kernel
theorem dL_keptIf_33 : decode cL_keptIf 33 = .ok (.iinc 8 1, 3) := by decide +kernel
theorem dL_keptIf_36 : decode cL_keptIf 36 = .ok (.goto (-21), 3) := by decide +kernel
theorem dL_keptIf_39 : decode cL_keptIf 39 = .ok (.aload_n 0, 1) := by decide +kernel
theorem dL_keptIf_40 : decode cL_keptIf 40 = .ok (.aload 5, 2) := by decide +kernel
theorem dL_keptIf_42 : decode cL_keptIf 42 = .ok (.invokestatic 29, 3) := by decide +kernel
theorem dL_keptIf_45 : decode cL_keptIf 45 = .ok (.ireturn, 1) := by decide +kernel
theorem dL_points_0 : decode cL_points 0 = .ok (.iconst 0, 1) := by decide +kernel
theorem dL_points_1 : decode cL_points 1 = .ok (.istore_n 2, 1) := by decide +kernel
theorem dL_points_2 : decode cL_points 2 = .ok (.iconst 0, 1) := by decide +kernel
theorem dL_points_3 : decode cL_points 3 = .ok (.istore_n 3, 1) := by decide +kernel
theorem dL_points_4 : decode cL_points 4 = .ok (.iload_n 3, 1) := by decide +kernel
theorem dL_points_5 : decode cL_points 5 = .ok (.bipush 52, 2) := by decide +kernel
theorem dL_points_7 : decode cL_points 7 = .ok (.if_icmp .ge 39, 3) := by decide +kernel
theorem dL_points_10 : decode cL_points 10 = .ok (.iload_n 2, 1) := by decide +kernel
theorem dL_points_11 : decode cL_points 11 = .ok (.aload_n 0, 1) := by decide +kernel
theorem dL_points_12 : decode cL_points 12 = .ok (.iload_n 3, 1) := by decide +kernel
theorem dL_points_13 : decode cL_points 13 = .ok (.iaload, 1) := by decide +kernel
theorem dL_points_14 : decode cL_points 14 = .ok (.iload_n 1, 1) := by decide +kernel
theorem dL_points_15 : decode cL_points 15 = .ok (.if_icmp .ne 22, 3) := by decide +kernel
theorem dL_points_18 : decode cL_points 18 = .ok (.iload_n 3, 1) := by decide +kernel
theorem dL_points_19 : decode cL_points 19 = .ok (.bipush 13, 2) := by decide +kernel
theorem dL_points_21 : decode cL_points 21 = .ok (.irem, 1) := by decide +kernel
theorem dL_points_22 : decode cL_points 22 = .ok (.bipush 8, 2) := by decide +kernel
theorem dL_points_24 : decode cL_points 24 = .ok (.if_icmp .le 13, 3) := by decide +kernel
theorem dL_points_27 : decode cL_points 27 = .ok (.iload_n 3, 1) := by decide +kernel
theorem dL_points_28 : decode cL_points 28 = .ok (.bipush 13, 2) := by decide +kernel
theorem dL_points_30 : decode cL_points 30 = .ok (.irem, 1) := by decide +kernel
theorem dL_points_31 : decode cL_points 31 = .ok (.bipush 8, 2) := by decide +kernel
theorem dL_points_33 : decode cL_points 33 = .ok (.isub, 1) := by decide +kernel
theorem dL_points_34 : decode cL_points 34 = .ok (.goto 4, 3) := by decide +kernel
theorem dL_points_37 : decode cL_points 37 = .ok (.iconst 0, 1) := by decide +kernel
theorem dL_points_38 : decode cL_points 38 = .ok (.iadd, 1) := by decide +kernel
theorem dL_points_39 : decode cL_points 39 = .ok (.istore_n 2, 1) := by decide +kernel
theorem dL_points_40 : decode cL_points 40 = .ok (.iinc 3 1, 3) := by decide +kernel
theorem dL_points_43 : decode cL_points 43 = .ok (.goto (-39), 3) := by decide +kernel
theorem dL_points_46 : decode cL_points 46 = .ok (.iload_n 2, 1) := by decide +kernel
theorem dL_points_47 : decode cL_points 47 = .ok (.ireturn, 1) := by decide +kernel
theorem dL_isHand_0 : decode cL_isHand 0 = .ok (.iconst 0, 1) := by decide +kernel
theorem dL_isHand_1 : decode cL_isHand 1 = .ok (.istore 4, 2) := by decide +kernel
theorem dL_isHand_3 : decode cL_isHand 3 = .ok (.iconst 0, 1) := by decide +kernel
theorem dL_isHand_4 : decode cL_isHand 4 = .ok (.istore 5, 2) := by decide +kernel
theorem dL_isHand_6 : decode cL_isHand 6 = .ok (.iconst 0, 1) := by decide +kernel
theorem dL_isHand_7 : decode cL_isHand 7 = .ok (.istore 6, 2) := by decide +kernel
theorem dL_isHand_9 : decode cL_isHand 9 = .ok (.iload 6, 2) := by decide +kernel
theorem dL_isHand_11 : decode cL_isHand 11 = .ok (.iconst 4, 1) := by decide +kernel
theorem dL_isHand_12 : decode cL_isHand 12 = .ok (.if_icmp .ge 99, 3) := by decide +kernel
theorem dL_isHand_15 : decode cL_isHand 15 = .ok (.iconst 0, 1) := by decide +kernel
theorem dL_isHand_16 : decode cL_isHand 16 = .ok (.istore 7, 2) := by decide +kernel
theorem dL_isHand_18 : decode cL_isHand 18 = .ok (.iconst 0, 1) := by decide +kernel
theorem dL_isHand_19 : decode cL_isHand 19 = .ok (.istore 8, 2) := by decide +kernel
theorem dL_isHand_21 : decode cL_isHand 21 = .ok (.iload 8, 2) := by decide +kernel
theorem dL_isHand_23 : decode cL_isHand 23 = .ok (.bipush 13, 2) := by decide +kernel
theorem dL_isHand_25 : decode cL_isHand 25 = .ok (.if_icmp .ge 33, 3) := by decide +kernel
theorem dL_isHand_28 : decode cL_isHand 28 = .ok (.iload 7, 2) := by decide +kernel
theorem dL_isHand_30 : decode cL_isHand 30 = .ok (.aload_n 3, 1) := by decide +kernel
theorem dL_isHand_31 : decode cL_isHand 31 = .ok (.bipush 13, 2) := by decide +kernel
theorem dL_isHand_33 : decode cL_isHand 33 = .ok (.iload 6, 2) := by decide +kernel
theorem dL_isHand_35 : decode cL_isHand 35 = .ok (.imul, 1) := by decide +kernel
theorem dL_isHand_36 : decode cL_isHand 36 = .ok (.iload 8, 2) := by decide +kernel
theorem dL_isHand_38 : decode cL_isHand 38 = .ok (.iadd, 1) := by decide +kernel
theorem dL_isHand_39 : decode cL_isHand 39 = .ok (.iaload, 1) := by decide +kernel
theorem dL_isHand_40 : decode cL_isHand 40 = .ok (.iload_n 2, 1) := by decide +kernel
theorem dL_isHand_41 : decode cL_isHand 41 = .ok (.if_icmp .ne 7, 3) := by decide +kernel
theorem dL_isHand_44 : decode cL_isHand 44 = .ok (.iconst 1, 1) := by decide +kernel
theorem dL_isHand_45 : decode cL_isHand 45 = .ok (.goto 4, 3) := by decide +kernel
theorem dL_isHand_48 : decode cL_isHand 48 = .ok (.iconst 0, 1) := by decide +kernel
theorem dL_isHand_49 : decode cL_isHand 49 = .ok (.iadd, 1) := by decide +kernel
theorem dL_isHand_50 : decode cL_isHand 50 = .ok (.istore 7, 2) := by decide +kernel
theorem dL_isHand_52 : decode cL_isHand 52 = .ok (.iinc 8 1, 3) := by decide +kernel
theorem dL_isHand_55 : decode cL_isHand 55 = .ok (.goto (-34), 3) := by decide +kernel
theorem dL_isHand_58 : decode cL_isHand 58 = .ok (.iload 4, 2) := by decide +kernel
theorem dL_isHand_60 : decode cL_isHand 60 = .ok (.iload 7, 2) := by decide +kernel
theorem dL_isHand_62 : decode cL_isHand 62 = .ok (.iconst 2, 1) := by decide +kernel
theorem dL_isHand_63 : decode cL_isHand 63 = .ok (.if_icmp .ne 7, 3) := by decide +kernel
theorem dL_isHand_66 : decode cL_isHand 66 = .ok (.iconst 1, 1) := by decide +kernel
theorem dL_isHand_67 : decode cL_isHand 67 = .ok (.goto 4, 3) := by decide +kernel
theorem dL_isHand_70 : decode cL_isHand 70 = .ok (.iconst 0, 1) := by decide +kernel
theorem dL_isHand_71 : decode cL_isHand 71 = .ok (.iadd, 1) := by decide +kernel
theorem dL_isHand_72 : decode cL_isHand 72 = .ok (.istore 4, 2) := by decide +kernel
theorem dL_isHand_74 : decode cL_isHand 74 = .ok (.iload 5, 2) := by decide +kernel
theorem dL_isHand_76 : decode cL_isHand 76 = .ok (.iload 7, 2) := by decide +kernel
theorem dL_isHand_78 : decode cL_isHand 78 = .ok (.iconst 2, 1) := by decide +kernel
theorem dL_isHand_79 : decode cL_isHand 79 = .ok (.if_icmp .ge 7, 3) := by decide +kernel
theorem dL_isHand_82 : decode cL_isHand 82 = .ok (.iconst 1, 1) := by decide +kernel
theorem dL_isHand_83 : decode cL_isHand 83 = .ok (.goto 4, 3) := by decide +kernel
theorem dL_isHand_86 : decode cL_isHand 86 = .ok (.iconst 0, 1) := by decide +kernel
theorem dL_isHand_87 : decode cL_isHand 87 = .ok (.iadd, 1) := by decide +kernel
theorem dL_isHand_88 : decode cL_isHand 88 = .ok (.istore 5, 2) := by decide +kernel
theorem dL_isHand_90 : decode cL_isHand 90 = .ok (.aload_n 0, 1) := by decide +kernel
theorem dL_isHand_91 : decode cL_isHand 91 = .ok (.iload_n 1, 1) := by decide +kernel
theorem dL_isHand_92 : decode cL_isHand 92 = .ok (.iload_n 2, 1) := by decide +kernel
theorem dL_isHand_93 : decode cL_isHand 93 = .ok (.iload 6, 2) := by decide +kernel
theorem dL_isHand_95 : decode cL_isHand 95 = .ok (.invokevirtual 33, 3) := by decide +kernel
theorem dL_isHand_98 : decode cL_isHand 98 = .ok (.iload 7, 2) := by decide +kernel
theorem dL_isHand_100 : decode cL_isHand 100 = .ok (.if_icmp .eq 5, 3) := by decide +kernel
theorem dL_isHand_103 : decode cL_isHand 103 = .ok (.iconst 0, 1) := by decide +kernel
theorem dL_isHand_104 : decode cL_isHand 104 = .ok (.ireturn, 1) := by decide +kernel
theorem dL_isHand_105 : decode cL_isHand 105 = .ok (.iinc 6 1, 3) := by decide +kernel
theorem dL_isHand_108 : decode cL_isHand 108 = .ok (.goto (-99), 3) := by decide +kernel
theorem dL_isHand_111 : decode cL_isHand 111 = .ok (.bipush (-6), 2) := by decide +kernel
theorem dL_isHand_113 : decode cL_isHand 113 = .ok (.istore 6, 2) := by decide +kernel
theorem dL_isHand_115 : decode cL_isHand 115 = .ok (.iconst 0, 1) := by decide +kernel
theorem dL_isHand_116 : decode cL_isHand 116 = .ok (.istore 7, 2) := by decide +kernel
theorem dL_isHand_118 : decode cL_isHand 118 = .ok (.iload 7, 2) := by decide +kernel
theorem dL_isHand_120 : decode cL_isHand 120 = .ok (.bipush 13, 2) := by decide +kernel
theorem dL_isHand_122 : decode cL_isHand 122 = .ok (.if_icmp .ge 29, 3) := by decide +kernel
theorem dL_isHand_125 : decode cL_isHand 125 = .ok (.aload_n 3, 1) := by decide +kernel
theorem dL_isHand_126 : decode cL_isHand 126 = .ok (.bipush 39, 2) := by decide +kernel
theorem dL_isHand_128 : decode cL_isHand 128 = .ok (.iload 7, 2) := by decide +kernel
theorem dL_isHand_130 : decode cL_isHand 130 = .ok (.iadd, 1) := by decide +kernel
theorem dL_isHand_131 : decode cL_isHand 131 = .ok (.iaload, 1) := by decide +kernel
theorem dL_isHand_132 : decode cL_isHand 132 = .ok (.iload_n 2, 1) := by decide +kernel
theorem dL_isHand_133 : decode cL_isHand 133 = .ok (.if_icmp .ne 8, 3) := by decide +kernel
theorem dL_isHand_136 : decode cL_isHand 136 = .ok (.iload 7, 2) := by decide +kernel
theorem dL_isHand_138 : decode cL_isHand 138 = .ok (.goto 5, 3) := by decide +kernel
theorem dL_isHand_141 : decode cL_isHand 141 = .ok (.iload 6, 2) := by decide +kernel
theorem dL_isHand_143 : decode cL_isHand 143 = .ok (.istore 6, 2) := by decide +kernel
theorem dL_isHand_145 : decode cL_isHand 145 = .ok (.iinc 7 1, 3) := by decide +kernel
theorem dL_isHand_148 : decode cL_isHand 148 = .ok (.goto (-30), 3) := by decide +kernel
theorem dL_isHand_151 : decode cL_isHand 151 = .ok (.iload 5, 2) := by decide +kernel
theorem dL_isHand_153 : decode cL_isHand 153 = .ok (.ifCond .ne 13, 3) := by decide +kernel
theorem dL_isHand_156 : decode cL_isHand 156 = .ok (.iload 4, 2) := by decide +kernel
theorem dL_isHand_158 : decode cL_isHand 158 = .ok (.iconst 2, 1) := by decide +kernel
theorem dL_isHand_159 : decode cL_isHand 159 = .ok (.if_icmp .ge 7, 3) := by decide +kernel
theorem dL_isHand_162 : decode cL_isHand 162 = .ok (.iconst 1, 1) := by decide +kernel
theorem dL_isHand_163 : decode cL_isHand 163 = .ok (.goto 4, 3) := by decide +kernel
theorem dL_isHand_166 : decode cL_isHand 166 = .ok (.iconst 0, 1) := by decide +kernel
theorem dL_isHand_167 : decode cL_isHand 167 = .ok (.istore 7, 2) := by decide +kernel
theorem dL_isHand_169 : decode cL_isHand 169 = .ok (.aload_n 0, 1) := by decide +kernel
theorem dL_isHand_170 : decode cL_isHand 170 = .ok (.iload_n 1, 1) := by decide +kernel
theorem dL_isHand_171 : decode cL_isHand 171 = .ok (.iload_n 2, 1) := by decide +kernel
theorem dL_isHand_172 : decode cL_isHand 172 = .ok (.iconst 4, 1) := by decide +kernel
theorem dL_isHand_173 : decode cL_isHand 173 = .ok (.invokevirtual 33, 3) := by decide +kernel
theorem dL_isHand_176 : decode cL_isHand 176 = .ok (.aload_n 3, 1) := by decide +kernel
theorem dL_isHand_177 : decode cL_isHand 177 = .ok (.iload_n 2, 1) := by decide +kernel
theorem dL_isHand_178 : decode cL_isHand 178 = .ok (.invokestatic 39, 3) := by decide +kernel
theorem dL_isHand_181 : decode cL_isHand 181 = .ok (.if_icmp .ne 63, 3) := by decide +kernel
theorem dL_isHand_184 : decode cL_isHand 184 = .ok (.aload_n 0, 1) := by decide +kernel
theorem dL_isHand_185 : decode cL_isHand 185 = .ok (.iload_n 1, 1) := by decide +kernel
theorem dL_isHand_186 : decode cL_isHand 186 = .ok (.iload_n 2, 1) := by decide +kernel
theorem dL_isHand_187 : decode cL_isHand 187 = .ok (.iconst 5, 1) := by decide +kernel
theorem dL_isHand_188 : decode cL_isHand 188 = .ok (.invokevirtual 33, 3) := by decide +kernel
theorem dL_isHand_191 : decode cL_isHand 191 = .ok (.iload 7, 2) := by decide +kernel
theorem dL_isHand_193 : decode cL_isHand 193 = .ok (.ifCond .eq 7, 3) := by decide +kernel
theorem dL_isHand_196 : decode cL_isHand 196 = .ok (.iconst 1, 1) := by decide +kernel
theorem dL_isHand_197 : decode cL_isHand 197 = .ok (.goto 4, 3) := by decide +kernel
theorem dL_isHand_200 : decode cL_isHand 200 = .ok (.iconst 0, 1) := by decide +kernel
theorem dL_isHand_201 : decode cL_isHand 201 = .ok (.if_icmp .ne 43, 3) := by decide +kernel
theorem dL_isHand_204 : decode cL_isHand 204 = .ok (.aload_n 0, 1) := by decide +kernel
theorem dL_isHand_205 : decode cL_isHand 205 = .ok (.iload_n 1, 1) := by decide +kernel
theorem dL_isHand_206 : decode cL_isHand 206 = .ok (.iload_n 2, 1) := by decide +kernel
theorem dL_isHand_207 : decode cL_isHand 207 = .ok (.bipush 6, 2) := by decide +kernel
theorem dL_isHand_209 : decode cL_isHand 209 = .ok (.invokevirtual 33, 3) := by decide +kernel
theorem dL_isHand_212 : decode cL_isHand 212 = .ok (.iload 6, 2) := by decide +kernel
theorem dL_isHand_214 : decode cL_isHand 214 = .ok (.if_icmp .ne 30, 3) := by decide +kernel
theorem dL_isHand_217 : decode cL_isHand 217 = .ok (.aload_n 0, 1) := by decide +kernel
theorem dL_isHand_218 : decode cL_isHand 218 = .ok (.iload_n 1, 1) := by decide +kernel
theorem dL_isHand_219 : decode cL_isHand 219 = .ok (.iconst 4, 1) := by decide +kernel
theorem dL_isHand_220 : decode cL_isHand 220 = .ok (.invokevirtual 42, 3) := by decide +kernel
theorem dL_isHand_223 : decode cL_isHand 223 = .ok (.iload_n 2, 1) := by decide +kernel
theorem dL_isHand_224 : decode cL_isHand 224 = .ok (.ishr, 1) := by decide +kernel
theorem dL_isHand_225 : decode cL_isHand 225 = .ok (.iconst 1, 1) := by decide +kernel
theorem dL_isHand_226 : decode cL_isHand 226 = .ok (.iand, 1) := by decide +kernel
theorem dL_isHand_227 : decode cL_isHand 227 = .ok (.iload 7, 2) := by decide +kernel
theorem dL_isHand_229 : decode cL_isHand 229 = .ok (.ifCond .eq 7, 3) := by decide +kernel
theorem dL_isHand_232 : decode cL_isHand 232 = .ok (.iconst 1, 1) := by decide +kernel
theorem dL_isHand_233 : decode cL_isHand 233 = .ok (.goto 4, 3) := by decide +kernel
theorem dL_isHand_236 : decode cL_isHand 236 = .ok (.iconst 0, 1) := by decide +kernel
theorem dL_isHand_237 : decode cL_isHand 237 = .ok (.if_icmp .ne 7, 3) := by decide +kernel
theorem dL_isHand_240 : decode cL_isHand 240 = .ok (.iconst 1, 1) := by decide +kernel
theorem dL_isHand_241 : decode cL_isHand 241 = .ok (.goto 4, 3) := by decide +kernel
theorem dL_isHand_244 : decode cL_isHand 244 = .ok (.iconst 0, 1) := by decide +kernel
theorem dL_isHand_245 : decode cL_isHand 245 = .ok (.ireturn, 1) := by decide +kernel
theorem dL_isBoard_0 : decode cL_isBoard 0 = .ok (.aload_n 0, 1) := by decide +kernel
theorem dL_isBoard_1 : decode cL_isBoard 1 = .ok (.iload_n 1, 1) := by decide +kernel
theorem dL_isBoard_2 : decode cL_isBoard 2 = .ok (.iconst 0, 1) := by decide +kernel
theorem dL_isBoard_3 : decode cL_isBoard 3 = .ok (.invokevirtual 42, 3) := by decide +kernel
theorem dL_isBoard_6 : decode cL_isBoard 6 = .ok (.aload_n 2, 1) := by decide +kernel
theorem dL_isBoard_7 : decode cL_isBoard 7 = .ok (.iconst 3, 1) := by decide +kernel
theorem dL_isBoard_8 : decode cL_isBoard 8 = .ok (.iload_n 1, 1) := by decide +kernel
theorem dL_isBoard_9 : decode cL_isBoard 9 = .ok (.imul, 1) := by decide +kernel
theorem dL_isBoard_10 : decode cL_isBoard 10 = .ok (.iaload, 1) := by decide +kernel
theorem dL_isBoard_11 : decode cL_isBoard 11 = .ok (.if_icmp .ne 35, 3) := by decide +kernel
theorem dL_isBoard_14 : decode cL_isBoard 14 = .ok (.aload_n 0, 1) := by decide +kernel
theorem dL_isBoard_15 : decode cL_isBoard 15 = .ok (.iload_n 1, 1) := by decide +kernel
theorem dL_isBoard_16 : decode cL_isBoard 16 = .ok (.iconst 1, 1) := by decide +kernel
theorem dL_isBoard_17 : decode cL_isBoard 17 = .ok (.invokevirtual 42, 3) := by decide +kernel
theorem dL_isBoard_20 : decode cL_isBoard 20 = .ok (.aload_n 2, 1) := by decide +kernel
theorem dL_isBoard_21 : decode cL_isBoard 21 = .ok (.iconst 3, 1) := by decide +kernel
theorem dL_isBoard_22 : decode cL_isBoard 22 = .ok (.iload_n 1, 1) := by decide +kernel
theorem dL_isBoard_23 : decode cL_isBoard 23 = .ok (.imul, 1) := by decide +kernel
theorem dL_isBoard_24 : decode cL_isBoard 24 = .ok (.iconst 1, 1) := by decide +kernel
theorem dL_isBoard_25 : decode cL_isBoard 25 = .ok (.iadd, 1) := by decide +kernel
theorem dL_isBoard_26 : decode cL_isBoard 26 = .ok (.iaload, 1) := by decide +kernel
theorem dL_isBoard_27 : decode cL_isBoard 27 = .ok (.if_icmp .ne 19, 3) := by decide +kernel
theorem dL_isBoard_30 : decode cL_isBoard 30 = .ok (.aload_n 0, 1) := by decide +kernel
theorem dL_isBoard_31 : decode cL_isBoard 31 = .ok (.iload_n 1, 1) := by decide +kernel
theorem dL_isBoard_32 : decode cL_isBoard 32 = .ok (.iconst 2, 1) := by decide +kernel
theorem dL_isBoard_33 : decode cL_isBoard 33 = .ok (.invokevirtual 42, 3) := by decide +kernel
theorem dL_isBoard_36 : decode cL_isBoard 36 = .ok (.aload_n 2, 1) := by decide +kernel
theorem dL_isBoard_37 : decode cL_isBoard 37 = .ok (.iconst 3, 1) := by decide +kernel
theorem dL_isBoard_38 : decode cL_isBoard 38 = .ok (.iload_n 1, 1) := by decide +kernel
theorem dL_isBoard_39 : decode cL_isBoard 39 = .ok (.imul, 1) := by decide +kernel
theorem dL_isBoard_40 : decode cL_isBoard 40 = .ok (.iconst 2, 1) := by decide +kernel
theorem dL_isBoard_41 : decode cL_isBoard 41 = .ok (.iadd, 1) := by decide +kernel
theorem dL_isBoard_42 : decode cL_isBoard 42 = .ok (.iaload, 1) := by decide +kernel
theorem dL_isBoard_43 : decode cL_isBoard 43 = .ok (.if_icmp .eq 5, 3) := by decide +kernel
theorem dL_isBoard_46 : decode cL_isBoard 46 = .ok (.iconst 0, 1) := by decide +kernel
theorem dL_isBoard_47 : decode cL_isBoard 47 = .ok (.ireturn, 1) := by decide +kernel
theorem dL_isBoard_48 : decode cL_isBoard 48 = .ok (.aload_n 2, 1) := by decide +kernel
theorem dL_isBoard_49 : decode cL_isBoard 49 = .ok (.iconst 3, 1) := by decide +kernel
theorem dL_isBoard_50 : decode cL_isBoard 50 = .ok (.iload_n 1, 1) := by decide +kernel
theorem dL_isBoard_51 : decode cL_isBoard 51 = .ok (.imul, 1) := by decide +kernel
theorem dL_isBoard_52 : decode cL_isBoard 52 = .ok (.iaload, 1) := by decide +kernel
theorem dL_isBoard_53 : decode cL_isBoard 53 = .ok (.ifCond .ne 63, 3) := by decide +kernel
theorem dL_isBoard_56 : decode cL_isBoard 56 = .ok (.aload_n 0, 1) := by decide +kernel
theorem dL_isBoard_57 : decode cL_isBoard 57 = .ok (.iload_n 1, 1) := by decide +kernel
theorem dL_isBoard_58 : decode cL_isBoard 58 = .ok (.iconst 3, 1) := by decide +kernel
theorem dL_isBoard_59 : decode cL_isBoard 59 = .ok (.invokevirtual 42, 3) := by decide +kernel
theorem dL_isBoard_62 : decode cL_isBoard 62 = .ok (.bipush (-6), 2) := by decide +kernel
theorem dL_isBoard_64 : decode cL_isBoard 64 = .ok (.if_icmp .ne 50, 3) := by decide +kernel
theorem dL_isBoard_67 : decode cL_isBoard 67 = .ok (.aload_n 0, 1) := by decide +kernel
theorem dL_isBoard_68 : decode cL_isBoard 68 = .ok (.iload_n 1, 1) := by decide +kernel
theorem dL_isBoard_69 : decode cL_isBoard 69 = .ok (.iconst 4, 1) := by decide +kernel
theorem dL_isBoard_70 : decode cL_isBoard 70 = .ok (.invokevirtual 42, 3) := by decide +kernel
theorem dL_isBoard_73 : decode cL_isBoard 73 = .ok (.ifCond .ne 41, 3) := by decide +kernel
theorem dL_isBoard_76 : decode cL_isBoard 76 = .ok (.aload_n 0, 1) := by decide +kernel
theorem dL_isBoard_77 : decode cL_isBoard 77 = .ok (.iload_n 1, 1) := by decide +kernel
theorem dL_isBoard_78 : decode cL_isBoard 78 = .ok (.iconst 5, 1) := by decide +kernel
theorem dL_isBoard_79 : decode cL_isBoard 79 = .ok (.invokevirtual 46, 3) := by decide +kernel
theorem dL_isBoard_82 : decode cL_isBoard 82 = .ok (.bipush (-6), 2) := by decide +kernel
theorem dL_isBoard_84 : decode cL_isBoard 84 = .ok (.if_icmp .ne 30, 3) := by decide +kernel
theorem dL_isBoard_87 : decode cL_isBoard 87 = .ok (.aload_n 0, 1) := by decide +kernel
theorem dL_isBoard_88 : decode cL_isBoard 88 = .ok (.iload_n 1, 1) := by decide +kernel
theorem dL_isBoard_89 : decode cL_isBoard 89 = .ok (.iconst 3, 1) := by decide +kernel
theorem dL_isBoard_90 : decode cL_isBoard 90 = .ok (.iconst 4, 1) := by decide +kernel
theorem dL_isBoard_91 : decode cL_isBoard 91 = .ok (.invokevirtual 33, 3) := by decide +kernel
theorem dL_isBoard_94 : decode cL_isBoard 94 = .ok (.bipush (-6), 2) := by decide +kernel
theorem dL_isBoard_96 : decode cL_isBoard 96 = .ok (.if_icmp .ne 18, 3) := by decide +kernel
theorem dL_isBoard_99 : decode cL_isBoard 99 = .ok (.aload_n 0, 1) := by decide +kernel
theorem dL_isBoard_100 : decode cL_isBoard 100 = .ok (.iload_n 1, 1) := by decide +kernel
theorem dL_isBoard_101 : decode cL_isBoard 101 = .ok (.iload_n 1, 1) := by decide +kernel
theorem dL_isBoard_102 : decode cL_isBoard 102 = .ok (.invokevirtual 49, 3) := by decide +kernel
theorem dL_isBoard_105 : decode cL_isBoard 105 = .ok (.bipush (-6), 2) := by decide +kernel
theorem dL_isBoard_107 : decode cL_isBoard 107 = .ok (.if_icmp .ne 7, 3) := by decide +kernel
theorem dL_isBoard_110 : decode cL_isBoard 110 = .ok (.iconst 1, 1) := by decide +kernel
theorem dL_isBoard_111 : decode cL_isBoard 111 = .ok (.goto 4, 3) := by decide +kernel
theorem dL_isBoard_114 : decode cL_isBoard 114 = .ok (.iconst 0, 1) := by decide +kernel
theorem dL_isBoard_115 : decode cL_isBoard 115 = .ok (.ireturn, 1) := by decide +kernel
theorem dL_isBoard_116 : decode cL_isBoard 116 = .ok (.iconst 0, 1) := by decide +kernel
theorem dL_isBoard_117 : decode cL_isBoard 117 = .ok (.istore 4, 2) := by decide +kernel
theorem dL_isBoard_119 : decode cL_isBoard 119 = .ok (.iconst 0, 1) := by decide +kernel
theorem dL_isBoard_120 : decode cL_isBoard 120 = .ok (.istore 5, 2) := by decide +kernel
theorem dL_isBoard_122 : decode cL_isBoard 122 = .ok (.iload 5, 2) := by decide +kernel
theorem dL_isBoard_124 : decode cL_isBoard 124 = .ok (.bipush 52, 2) := by decide +kernel
theorem dL_isBoard_126 : decode cL_isBoard 126 = .ok (.if_icmp .ge 25, 3) := by decide +kernel
theorem dL_isBoard_129 : decode cL_isBoard 129 = .ok (.aload_n 0, 1) := by decide +kernel
theorem dL_isBoard_130 : decode cL_isBoard 130 = .ok (.iload_n 1, 1) := by decide +kernel
theorem dL_isBoard_131 : decode cL_isBoard 131 = .ok (.iload 5, 2) := by decide +kernel
theorem dL_isBoard_133 : decode cL_isBoard 133 = .ok (.invokevirtual 46, 3) := by decide +kernel
theorem dL_isBoard_136 : decode cL_isBoard 136 = .ok (.aload_n 3, 1) := by decide +kernel
theorem dL_isBoard_137 : decode cL_isBoard 137 = .ok (.iload 5, 2) := by decide +kernel
theorem dL_isBoard_139 : decode cL_isBoard 139 = .ok (.iaload, 1) := by decide +kernel
theorem dL_isBoard_140 : decode cL_isBoard 140 = .ok (.if_icmp .eq 5, 3) := by decide +kernel
theorem dL_isBoard_143 : decode cL_isBoard 143 = .ok (.iconst 0, 1) := by decide +kernel
theorem dL_isBoard_144 : decode cL_isBoard 144 = .ok (.ireturn, 1) := by decide +kernel
theorem dL_isBoard_145 : decode cL_isBoard 145 = .ok (.iinc 5 1, 3) := by decide +kernel
theorem dL_isBoard_148 : decode cL_isBoard 148 = .ok (.goto (-26), 3) := by decide +kernel
theorem dL_isBoard_151 : decode cL_isBoard 151 = .ok (.iconst 0, 1) := by decide +kernel
theorem dL_isBoard_152 : decode cL_isBoard 152 = .ok (.istore 5, 2) := by decide +kernel
theorem dL_isBoard_154 : decode cL_isBoard 154 = .ok (.iload 5, 2) := by decide +kernel
theorem dL_isBoard_156 : decode cL_isBoard 156 = .ok (.iconst 4, 1) := by decide +kernel
theorem dL_isBoard_157 : decode cL_isBoard 157 = .ok (.if_icmp .ge 46, 3) := by decide +kernel
theorem dL_isBoard_160 : decode cL_isBoard 160 = .ok (.aload_n 0, 1) := by decide +kernel
theorem dL_isBoard_161 : decode cL_isBoard 161 = .ok (.iload_n 1, 1) := by decide +kernel
theorem dL_isBoard_162 : decode cL_isBoard 162 = .ok (.iload 5, 2) := by decide +kernel
theorem dL_isBoard_164 : decode cL_isBoard 164 = .ok (.aload_n 3, 1) := by decide +kernel
theorem dL_isBoard_165 : decode cL_isBoard 165 = .ok (.invokestatic 52, 3) := by decide +kernel
theorem dL_isBoard_168 : decode cL_isBoard 168 = .ok (.ifCond .ne 5, 3) := by decide +kernel
theorem dL_isBoard_171 : decode cL_isBoard 171 = .ok (.iconst 0, 1) := by decide +kernel
theorem dL_isBoard_172 : decode cL_isBoard 172 = .ok (.ireturn, 1) := by decide +kernel
theorem dL_isBoard_173 : decode cL_isBoard 173 = .ok (.aload_n 3, 1) := by decide +kernel
theorem dL_isBoard_174 : decode cL_isBoard 174 = .ok (.iload 5, 2) := by decide +kernel
theorem dL_isBoard_176 : decode cL_isBoard 176 = .ok (.invokestatic 39, 3) := by decide +kernel
theorem dL_isBoard_179 : decode cL_isBoard 179 = .ok (.aload_n 3, 1) := by decide +kernel
theorem dL_isBoard_180 : decode cL_isBoard 180 = .ok (.iload 4, 2) := by decide +kernel
theorem dL_isBoard_182 : decode cL_isBoard 182 = .ok (.invokestatic 39, 3) := by decide +kernel
theorem dL_isBoard_185 : decode cL_isBoard 185 = .ok (.if_icmp .le 8, 3) := by decide +kernel
theorem dL_isBoard_188 : decode cL_isBoard 188 = .ok (.iload 5, 2) := by decide +kernel
theorem dL_isBoard_190 : decode cL_isBoard 190 = .ok (.goto 5, 3) := by decide +kernel
theorem dL_isBoard_193 : decode cL_isBoard 193 = .ok (.iload 4, 2) := by decide +kernel
theorem dL_isBoard_195 : decode cL_isBoard 195 = .ok (.istore 4, 2) := by decide +kernel
theorem dL_isBoard_197 : decode cL_isBoard 197 = .ok (.iinc 5 1, 3) := by decide +kernel
theorem dL_isBoard_200 : decode cL_isBoard 200 = .ok (.goto (-46), 3) := by decide +kernel
theorem dL_isBoard_203 : decode cL_isBoard 203 = .ok (.aload_n 0, 1) := by decide +kernel
theorem dL_isBoard_204 : decode cL_isBoard 204 = .ok (.iload_n 1, 1) := by decide +kernel
theorem dL_isBoard_205 : decode cL_isBoard 205 = .ok (.iconst 3, 1) := by decide +kernel
theorem dL_isBoard_206 : decode cL_isBoard 206 = .ok (.invokevirtual 42, 3) := by decide +kernel
theorem dL_isBoard_209 : decode cL_isBoard 209 = .ok (.iload 4, 2) := by decide +kernel
theorem dL_isBoard_211 : decode cL_isBoard 211 = .ok (.if_icmp .ne 28, 3) := by decide +kernel
theorem dL_isBoard_214 : decode cL_isBoard 214 = .ok (.aload_n 0, 1) := by decide +kernel
theorem dL_isBoard_215 : decode cL_isBoard 215 = .ok (.iload_n 1, 1) := by decide +kernel
theorem dL_isBoard_216 : decode cL_isBoard 216 = .ok (.iconst 5, 1) := by decide +kernel
theorem dL_isBoard_217 : decode cL_isBoard 217 = .ok (.invokevirtual 42, 3) := by decide +kernel
theorem dL_isBoard_220 : decode cL_isBoard 220 = .ok (.bipush (-2), 2) := by decide +kernel
theorem dL_isBoard_222 : decode cL_isBoard 222 = .ok (.if_icmp .ne 17, 3) := by decide +kernel
theorem dL_isBoard_225 : decode cL_isBoard 225 = .ok (.aload_n 0, 1) := by decide +kernel
theorem dL_isBoard_226 : decode cL_isBoard 226 = .ok (.iload_n 1, 1) := by decide +kernel
theorem dL_isBoard_227 : decode cL_isBoard 227 = .ok (.iload_n 1, 1) := by decide +kernel
theorem dL_isBoard_228 : decode cL_isBoard 228 = .ok (.invokevirtual 49, 3) := by decide +kernel
theorem dL_isBoard_231 : decode cL_isBoard 231 = .ok (.iconst 1, 1) := by decide +kernel
theorem dL_isBoard_232 : decode cL_isBoard 232 = .ok (.if_icmp .ne 7, 3) := by decide +kernel
theorem dL_isBoard_235 : decode cL_isBoard 235 = .ok (.iconst 1, 1) := by decide +kernel
theorem dL_isBoard_236 : decode cL_isBoard 236 = .ok (.goto 4, 3) := by decide +kernel
theorem dL_isBoard_239 : decode cL_isBoard 239 = .ok (.iconst 0, 1) := by decide +kernel
theorem dL_isBoard_240 : decode cL_isBoard 240 = .ok (.ireturn, 1) := by decide +kernel
theorem dL_isSo_0 : decode cL_isSo 0 = .ok (.iconst 0, 1) := by decide +kernel
theorem dL_isSo_1 : decode cL_isSo 1 = .ok (.istore 5, 2) := by decide +kernel
theorem dL_isSo_3 : decode cL_isSo 3 = .ok (.iconst 0, 1) := by decide +kernel
theorem dL_isSo_4 : decode cL_isSo 4 = .ok (.istore 6, 2) := by decide +kernel
theorem dL_isSo_6 : decode cL_isSo 6 = .ok (.iconst 0, 1) := by decide +kernel
theorem dL_isSo_7 : decode cL_isSo 7 = .ok (.istore 7, 2) := by decide +kernel
theorem dL_isSo_9 : decode cL_isSo 9 = .ok (.iload 7, 2) := by decide +kernel
theorem dL_isSo_11 : decode cL_isSo 11 = .ok (.bipush 52, 2) := by decide +kernel
theorem dL_isSo_13 : decode cL_isSo 13 = .ok (.if_icmp .ge 76, 3) := by decide +kernel
theorem dL_isSo_16 : decode cL_isSo 16 = .ok (.aload_n 0, 1) := by decide +kernel
theorem dL_isSo_17 : decode cL_isSo 17 = .ok (.iload 7, 2) := by decide +kernel
theorem dL_isSo_19 : decode cL_isSo 19 = .ok (.invokevirtual 56, 3) := by decide +kernel
theorem dL_isSo_22 : decode cL_isSo 22 = .ok (.aload_n 1, 1) := by decide +kernel
theorem dL_isSo_23 : decode cL_isSo 23 = .ok (.iload 7, 2) := by decide +kernel
theorem dL_isSo_25 : decode cL_isSo 25 = .ok (.iaload, 1) := by decide +kernel
theorem dL_isSo_26 : decode cL_isSo 26 = .ok (.if_icmp .ne 16, 3) := by decide +kernel
theorem dL_isSo_29 : decode cL_isSo 29 = .ok (.aload_n 0, 1) := by decide +kernel
theorem dL_isSo_30 : decode cL_isSo 30 = .ok (.aload_n 1, 1) := by decide +kernel
theorem dL_isSo_31 : decode cL_isSo 31 = .ok (.iload 7, 2) := by decide +kernel
theorem dL_isSo_33 : decode cL_isSo 33 = .ok (.iaload, 1) := by decide +kernel
theorem dL_isSo_34 : decode cL_isSo 34 = .ok (.invokevirtual 60, 3) := by decide +kernel
theorem dL_isSo_37 : decode cL_isSo 37 = .ok (.iload 7, 2) := by decide +kernel
theorem dL_isSo_39 : decode cL_isSo 39 = .ok (.if_icmp .eq 5, 3) := by decide +kernel
theorem dL_isSo_42 : decode cL_isSo 42 = .ok (.iconst 0, 1) := by decide +kernel
theorem dL_isSo_43 : decode cL_isSo 43 = .ok (.ireturn, 1) := by decide +kernel
theorem dL_isSo_44 : decode cL_isSo 44 = .ok (.iload 5, 2) := by decide +kernel
theorem dL_isSo_46 : decode cL_isSo 46 = .ok (.aload_n 2, 1) := by decide +kernel
theorem dL_isSo_47 : decode cL_isSo 47 = .ok (.iload 7, 2) := by decide +kernel
theorem dL_isSo_49 : decode cL_isSo 49 = .ok (.iaload, 1) := by decide +kernel
theorem dL_isSo_50 : decode cL_isSo 50 = .ok (.iadd, 1) := by decide +kernel
theorem dL_isSo_51 : decode cL_isSo 51 = .ok (.istore 5, 2) := by decide +kernel
theorem dL_isSo_53 : decode cL_isSo 53 = .ok (.iload 6, 2) := by decide +kernel
theorem dL_isSo_55 : decode cL_isSo 55 = .ok (.iload 7, 2) := by decide +kernel
theorem dL_isSo_57 : decode cL_isSo 57 = .ok (.ifCond .le 22, 3) := by decide +kernel
theorem dL_isSo_60 : decode cL_isSo 60 = .ok (.aload_n 1, 1) := by decide +kernel
theorem dL_isSo_61 : decode cL_isSo 61 = .ok (.iload 7, 2) := by decide +kernel
theorem dL_isSo_63 : decode cL_isSo 63 = .ok (.iaload, 1) := by decide +kernel
theorem dL_isSo_64 : decode cL_isSo 64 = .ok (.aload_n 1, 1) := by decide +kernel
theorem dL_isSo_65 : decode cL_isSo 65 = .ok (.iload 7, 2) := by decide +kernel
theorem dL_isSo_67 : decode cL_isSo 67 = .ok (.iconst 1, 1) := by decide +kernel
theorem dL_isSo_68 : decode cL_isSo 68 = .ok (.isub, 1) := by decide +kernel
theorem dL_isSo_69 : decode cL_isSo 69 = .ok (.iaload, 1) := by decide +kernel
theorem dL_isSo_70 : decode cL_isSo 70 = .ok (.isub, 1) := by decide +kernel
theorem dL_isSo_71 : decode cL_isSo 71 = .ok (.iconst 1, 1) := by decide +kernel
theorem dL_isSo_72 : decode cL_isSo 72 = .ok (.if_icmp .ne 7, 3) := by decide +kernel
theorem dL_isSo_75 : decode cL_isSo 75 = .ok (.iconst 1, 1) := by decide +kernel
theorem dL_isSo_76 : decode cL_isSo 76 = .ok (.goto 4, 3) := by decide +kernel
theorem dL_isSo_79 : decode cL_isSo 79 = .ok (.iconst 0, 1) := by decide +kernel
theorem dL_isSo_80 : decode cL_isSo 80 = .ok (.iadd, 1) := by decide +kernel
theorem dL_isSo_81 : decode cL_isSo 81 = .ok (.istore 6, 2) := by decide +kernel
theorem dL_isSo_83 : decode cL_isSo 83 = .ok (.iinc 7 1, 3) := by decide +kernel
theorem dL_isSo_86 : decode cL_isSo 86 = .ok (.goto (-77), 3) := by decide +kernel
theorem dL_isSo_89 : decode cL_isSo 89 = .ok (.aload 4, 2) := by decide +kernel
theorem dL_isSo_91 : decode cL_isSo 91 = .ok (.iconst 1, 1) := by decide +kernel
theorem dL_isSo_92 : decode cL_isSo 92 = .ok (.iaload, 1) := by decide +kernel
theorem dL_isSo_93 : decode cL_isSo 93 = .ok (.aload 4, 2) := by decide +kernel
theorem dL_isSo_95 : decode cL_isSo 95 = .ok (.iconst 4, 1) := by decide +kernel
theorem dL_isSo_96 : decode cL_isSo 96 = .ok (.iaload, 1) := by decide +kernel
theorem dL_isSo_97 : decode cL_isSo 97 = .ok (.iadd, 1) := by decide +kernel
theorem dL_isSo_98 : decode cL_isSo 98 = .ok (.aload 4, 2) := by decide +kernel
theorem dL_isSo_100 : decode cL_isSo 100 = .ok (.bipush 7, 2) := by decide +kernel
theorem dL_isSo_102 : decode cL_isSo 102 = .ok (.iaload, 1) := by decide +kernel
theorem dL_isSo_103 : decode cL_isSo 103 = .ok (.iadd, 1) := by decide +kernel
theorem dL_isSo_104 : decode cL_isSo 104 = .ok (.aload 4, 2) := by decide +kernel
theorem dL_isSo_106 : decode cL_isSo 106 = .ok (.bipush 10, 2) := by decide +kernel
theorem dL_isSo_108 : decode cL_isSo 108 = .ok (.iaload, 1) := by decide +kernel
theorem dL_isSo_109 : decode cL_isSo 109 = .ok (.iadd, 1) := by decide +kernel
theorem dL_isSo_110 : decode cL_isSo 110 = .ok (.istore 7, 2) := by decide +kernel
theorem dL_isSo_112 : decode cL_isSo 112 = .ok (.aload_n 0, 1) := by decide +kernel
theorem dL_isSo_113 : decode cL_isSo 113 = .ok (.iconst 0, 1) := by decide +kernel
theorem dL_isSo_114 : decode cL_isSo 114 = .ok (.invokevirtual 63, 3) := by decide +kernel
theorem dL_isSo_117 : decode cL_isSo 117 = .ok (.aload_n 3, 1) := by decide +kernel
theorem dL_isSo_118 : decode cL_isSo 118 = .ok (.iconst 0, 1) := by decide +kernel
theorem dL_isSo_119 : decode cL_isSo 119 = .ok (.iaload, 1) := by decide +kernel
theorem dL_isSo_120 : decode cL_isSo 120 = .ok (.if_icmp .ne 80, 3) := by decide +kernel
theorem dL_isSo_123 : decode cL_isSo 123 = .ok (.aload_n 0, 1) := by decide +kernel
theorem dL_isSo_124 : decode cL_isSo 124 = .ok (.iconst 1, 1) := by decide +kernel
theorem dL_isSo_125 : decode cL_isSo 125 = .ok (.invokevirtual 63, 3) := by decide +kernel
theorem dL_isSo_128 : decode cL_isSo 128 = .ok (.aload_n 3, 1) := by decide +kernel
theorem dL_isSo_129 : decode cL_isSo 129 = .ok (.iconst 1, 1) := by decide +kernel
theorem dL_isSo_130 : decode cL_isSo 130 = .ok (.iaload, 1) := by decide +kernel
theorem dL_isSo_131 : decode cL_isSo 131 = .ok (.if_icmp .ne 69, 3) := by decide +kernel
theorem dL_isSo_134 : decode cL_isSo 134 = .ok (.aload_n 0, 1) := by decide +kernel
theorem dL_isSo_135 : decode cL_isSo 135 = .ok (.iconst 2, 1) := by decide +kernel
theorem dL_isSo_136 : decode cL_isSo 136 = .ok (.invokevirtual 63, 3) := by decide +kernel
theorem dL_isSo_139 : decode cL_isSo 139 = .ok (.aload_n 3, 1) := by decide +kernel
theorem dL_isSo_140 : decode cL_isSo 140 = .ok (.iconst 2, 1) := by decide +kernel
theorem dL_isSo_141 : decode cL_isSo 141 = .ok (.iaload, 1) := by decide +kernel
theorem dL_isSo_142 : decode cL_isSo 142 = .ok (.if_icmp .ne 58, 3) := by decide +kernel
theorem dL_isSo_145 : decode cL_isSo 145 = .ok (.aload_n 0, 1) := by decide +kernel
theorem dL_isSo_146 : decode cL_isSo 146 = .ok (.iconst 3, 1) := by decide +kernel
theorem dL_isSo_147 : decode cL_isSo 147 = .ok (.invokevirtual 63, 3) := by decide +kernel
theorem dL_isSo_150 : decode cL_isSo 150 = .ok (.iload 5, 2) := by decide +kernel
theorem dL_isSo_152 : decode cL_isSo 152 = .ok (.if_icmp .ne 48, 3) := by decide +kernel
theorem dL_isSo_155 : decode cL_isSo 155 = .ok (.aload_n 0, 1) := by decide +kernel
theorem dL_isSo_156 : decode cL_isSo 156 = .ok (.bipush 10, 2) := by decide +kernel
theorem dL_isSo_158 : decode cL_isSo 158 = .ok (.invokevirtual 63, 3) := by decide +kernel
theorem dL_isSo_161 : decode cL_isSo 161 = .ok (.iload 7, 2) := by decide +kernel
theorem dL_isSo_163 : decode cL_isSo 163 = .ok (.if_icmp .ne 37, 3) := by decide +kernel
theorem dL_isSo_166 : decode cL_isSo 166 = .ok (.aload_n 0, 1) := by decide +kernel
theorem dL_isSo_167 : decode cL_isSo 167 = .ok (.bipush 11, 2) := by decide +kernel
theorem dL_isSo_169 : decode cL_isSo 169 = .ok (.invokevirtual 63, 3) := by decide +kernel
theorem dL_isSo_172 : decode cL_isSo 172 = .ok (.iload 6, 2) := by decide +kernel
theorem dL_isSo_174 : decode cL_isSo 174 = .ok (.if_icmp .ne 26, 3) := by decide +kernel
theorem dL_isSo_177 : decode cL_isSo 177 = .ok (.aload_n 0, 1) := by decide +kernel
theorem dL_isSo_178 : decode cL_isSo 178 = .ok (.bipush 52, 2) := by decide +kernel
theorem dL_isSo_180 : decode cL_isSo 180 = .ok (.invokevirtual 56, 3) := by decide +kernel
theorem dL_isSo_183 : decode cL_isSo 183 = .ok (.iconst (-1), 1) := by decide +kernel
theorem dL_isSo_184 : decode cL_isSo 184 = .ok (.if_icmp .ne 16, 3) := by decide +kernel
theorem dL_isSo_187 : decode cL_isSo 187 = .ok (.aload_n 0, 1) := by decide +kernel
theorem dL_isSo_188 : decode cL_isSo 188 = .ok (.iconst (-1), 1) := by decide +kernel
theorem dL_isSo_189 : decode cL_isSo 189 = .ok (.invokevirtual 60, 3) := by decide +kernel
theorem dL_isSo_192 : decode cL_isSo 192 = .ok (.iconst (-1), 1) := by decide +kernel
theorem dL_isSo_193 : decode cL_isSo 193 = .ok (.if_icmp .ne 7, 3) := by decide +kernel
theorem dL_isSo_196 : decode cL_isSo 196 = .ok (.iconst 1, 1) := by decide +kernel
theorem dL_isSo_197 : decode cL_isSo 197 = .ok (.goto 4, 3) := by decide +kernel
theorem dL_isSo_200 : decode cL_isSo 200 = .ok (.iconst 0, 1) := by decide +kernel
theorem dL_isSo_201 : decode cL_isSo 201 = .ok (.istore 8, 2) := by decide +kernel
theorem dL_isSo_203 : decode cL_isSo 203 = .ok (.iconst 0, 1) := by decide +kernel
theorem dL_isSo_204 : decode cL_isSo 204 = .ok (.istore 9, 2) := by decide +kernel
theorem dL_isSo_206 : decode cL_isSo 206 = .ok (.iload 9, 2) := by decide +kernel
theorem dL_isSo_208 : decode cL_isSo 208 = .ok (.bipush 6, 2) := by decide +kernel
theorem dL_isSo_210 : decode cL_isSo 210 = .ok (.if_icmp .ge 38, 3) := by decide +kernel
theorem dL_isSo_213 : decode cL_isSo 213 = .ok (.iload 8, 2) := by decide +kernel
theorem dL_isSo_215 : decode cL_isSo 215 = .ok (.ifCond .eq 24, 3) := by decide +kernel
theorem dL_isSo_218 : decode cL_isSo 218 = .ok (.aload_n 0, 1) := by decide +kernel
theorem dL_isSo_219 : decode cL_isSo 219 = .ok (.iconst 4, 1) := by decide +kernel
theorem dL_isSo_220 : decode cL_isSo 220 = .ok (.iload 9, 2) := by decide +kernel
theorem dL_isSo_222 : decode cL_isSo 222 = .ok (.iadd, 1) := by decide +kernel
theorem dL_isSo_223 : decode cL_isSo 223 = .ok (.invokevirtual 63, 3) := by decide +kernel
theorem dL_isSo_226 : decode cL_isSo 226 = .ok (.aload_n 3, 1) := by decide +kernel
theorem dL_isSo_227 : decode cL_isSo 227 = .ok (.iconst 3, 1) := by decide +kernel
theorem dL_isSo_228 : decode cL_isSo 228 = .ok (.iload 9, 2) := by decide +kernel
theorem dL_isSo_230 : decode cL_isSo 230 = .ok (.iadd, 1) := by decide +kernel
theorem dL_isSo_231 : decode cL_isSo 231 = .ok (.iaload, 1) := by decide +kernel
theorem dL_isSo_232 : decode cL_isSo 232 = .ok (.if_icmp .ne 7, 3) := by decide +kernel
theorem dL_isSo_235 : decode cL_isSo 235 = .ok (.iconst 1, 1) := by decide +kernel
theorem dL_isSo_236 : decode cL_isSo 236 = .ok (.goto 4, 3) := by decide +kernel
theorem dL_isSo_239 : decode cL_isSo 239 = .ok (.iconst 0, 1) := by decide +kernel
theorem dL_isSo_240 : decode cL_isSo 240 = .ok (.istore 8, 2) := by decide +kernel
theorem dL_isSo_242 : decode cL_isSo 242 = .ok (.iinc 9 1, 3) := by decide +kernel
theorem dL_isSo_245 : decode cL_isSo 245 = .ok (.goto (-39), 3) := by decide +kernel
theorem dL_isSo_248 : decode cL_isSo 248 = .ok (.iload 8, 2) := by decide +kernel
theorem dL_isSo_250 : decode cL_isSo 250 = .ok (.ireturn, 1) := by decide +kernel
theorem dL_isAhead_0 : decode cL_isAhead 0 = .ok (.bipush 52, 2) := by decide +kernel
theorem dL_isAhead_2 : decode cL_isAhead 2 = .ok (.newarray .int, 2) := by decide +kernel
theorem dL_isAhead_4 : decode cL_isAhead 4 = .ok (.astore 5, 2) := by decide +kernel
theorem dL_isAhead_6 : decode cL_isAhead 6 = .ok (.bipush 52, 2) := by decide +kernel
theorem dL_isAhead_8 : decode cL_isAhead 8 = .ok (.newarray .int, 2) := by decide +kernel
theorem dL_isAhead_10 : decode cL_isAhead 10 = .ok (.astore 6, 2) := by decide +kernel
theorem dL_isAhead_12 : decode cL_isAhead 12 = .ok (.bipush 9, 2) := by decide +kernel
theorem dL_isAhead_14 : decode cL_isAhead 14 = .ok (.newarray .int, 2) := by decide +kernel
theorem dL_isAhead_16 : decode cL_isAhead 16 = .ok (.astore 7, 2) := by decide +kernel
theorem dL_isAhead_18 : decode cL_isAhead 18 = .ok (.iconst 1, 1) := by decide +kernel
theorem dL_isAhead_19 : decode cL_isAhead 19 = .ok (.iload_n 1, 1) := by decide +kernel
theorem dL_isAhead_20 : decode cL_isAhead 20 = .ok (.bipush 20, 2) := by decide +kernel
theorem dL_isAhead_22 : decode cL_isAhead 22 = .ok (.invokestatic 66, 3) := by decide +kernel
theorem dL_isAhead_25 : decode cL_isAhead 25 = .ok (.iadd, 1) := by decide +kernel
theorem dL_isAhead_26 : decode cL_isAhead 26 = .ok (.istore 8, 2) := by decide +kernel
theorem dL_isAhead_28 : decode cL_isAhead 28 = .ok (.aload_n 2, 1) := by decide +kernel
theorem dL_isAhead_29 : decode cL_isAhead 29 = .ok (.aload_n 3, 1) := by decide +kernel
theorem dL_isAhead_30 : decode cL_isAhead 30 = .ok (.aload 4, 2) := by decide +kernel
theorem dL_isAhead_32 : decode cL_isAhead 32 = .ok (.iload 8, 2) := by decide +kernel
theorem dL_isAhead_34 : decode cL_isAhead 34 = .ok (.iconst (-1), 1) := by decide +kernel
theorem dL_isAhead_35 : decode cL_isAhead 35 = .ok (.aload 5, 2) := by decide +kernel
theorem dL_isAhead_37 : decode cL_isAhead 37 = .ok (.aload 6, 2) := by decide +kernel
theorem dL_isAhead_39 : decode cL_isAhead 39 = .ok (.aload 7, 2) := by decide +kernel
theorem dL_isAhead_41 : decode cL_isAhead 41 = .ok (.invokestatic 69, 3) := by decide +kernel
theorem dL_isAhead_44 : decode cL_isAhead 44 = .ok (.istore 9, 2) := by decide +kernel
theorem dL_isAhead_46 : decode cL_isAhead 46 = .ok (.bipush (-6), 2) := by decide +kernel
theorem dL_isAhead_48 : decode cL_isAhead 48 = .ok (.istore 10, 2) := by decide +kernel
theorem dL_isAhead_50 : decode cL_isAhead 50 = .ok (.bipush 20, 2) := by decide +kernel
theorem dL_isAhead_52 : decode cL_isAhead 52 = .ok (.istore 11, 2) := by decide +kernel
theorem dL_isAhead_54 : decode cL_isAhead 54 = .ok (.iload 11, 2) := by decide +kernel
theorem dL_isAhead_56 : decode cL_isAhead 56 = .ok (.ifCond .le 41, 3) := by decide +kernel
theorem dL_isAhead_59 : decode cL_isAhead 59 = .ok (.aload_n 2, 1) := by decide +kernel
theorem dL_isAhead_60 : decode cL_isAhead 60 = .ok (.aload_n 3, 1) := by decide +kernel
theorem dL_isAhead_61 : decode cL_isAhead 61 = .ok (.aload 4, 2) := by decide +kernel
theorem dL_isAhead_63 : decode cL_isAhead 63 = .ok (.iload 11, 2) := by decide +kernel
theorem dL_isAhead_65 : decode cL_isAhead 65 = .ok (.iconst (-1), 1) := by decide +kernel
theorem dL_isAhead_66 : decode cL_isAhead 66 = .ok (.aload 5, 2) := by decide +kernel
theorem dL_isAhead_68 : decode cL_isAhead 68 = .ok (.aload 6, 2) := by decide +kernel
theorem dL_isAhead_70 : decode cL_isAhead 70 = .ok (.aload 7, 2) := by decide +kernel
theorem dL_isAhead_72 : decode cL_isAhead 72 = .ok (.invokestatic 69, 3) := by decide +kernel
theorem dL_isAhead_75 : decode cL_isAhead 75 = .ok (.aload 4, 2) := by decide +kernel
theorem dL_isAhead_77 : decode cL_isAhead 77 = .ok (.iconst 0, 1) := by decide +kernel
theorem dL_isAhead_78 : decode cL_isAhead 78 = .ok (.iaload, 1) := by decide +kernel
theorem dL_isAhead_79 : decode cL_isAhead 79 = .ok (.if_icmp .gt 8, 3) := by decide +kernel
theorem dL_isAhead_82 : decode cL_isAhead 82 = .ok (.iload 11, 2) := by decide +kernel
theorem dL_isAhead_84 : decode cL_isAhead 84 = .ok (.goto 5, 3) := by decide +kernel
theorem dL_isAhead_87 : decode cL_isAhead 87 = .ok (.iload 10, 2) := by decide +kernel
theorem dL_isAhead_89 : decode cL_isAhead 89 = .ok (.istore 10, 2) := by decide +kernel
theorem dL_isAhead_91 : decode cL_isAhead 91 = .ok (.iinc 11 (-1), 3) := by decide +kernel
theorem dL_isAhead_94 : decode cL_isAhead 94 = .ok (.goto (-40), 3) := by decide +kernel
theorem dL_isAhead_97 : decode cL_isAhead 97 = .ok (.bipush (-6), 2) := by decide +kernel
theorem dL_isAhead_99 : decode cL_isAhead 99 = .ok (.istore 11, 2) := by decide +kernel
theorem dL_isAhead_101 : decode cL_isAhead 101 = .ok (.bipush 99, 2) := by decide +kernel
theorem dL_isAhead_103 : decode cL_isAhead 103 = .ok (.istore 12, 2) := by decide +kernel
theorem dL_isAhead_105 : decode cL_isAhead 105 = .ok (.iconst 0, 1) := by decide +kernel
theorem dL_isAhead_106 : decode cL_isAhead 106 = .ok (.istore 13, 2) := by decide +kernel
theorem dL_isAhead_108 : decode cL_isAhead 108 = .ok (.iload 13, 2) := by decide +kernel
theorem dL_isAhead_110 : decode cL_isAhead 110 = .ok (.bipush 52, 2) := by decide +kernel
theorem dL_isAhead_112 : decode cL_isAhead 112 = .ok (.if_icmp .ge 72, 3) := by decide +kernel
theorem dL_isAhead_115 : decode cL_isAhead 115 = .ok (.aload_n 3, 1) := by decide +kernel
theorem dL_isAhead_116 : decode cL_isAhead 116 = .ok (.iload 13, 2) := by decide +kernel
theorem dL_isAhead_118 : decode cL_isAhead 118 = .ok (.iaload, 1) := by decide +kernel
theorem dL_isAhead_119 : decode cL_isAhead 119 = .ok (.ifCond .ne 6, 3) := by decide +kernel
theorem dL_isAhead_122 : decode cL_isAhead 122 = .ok (.goto 56, 3) := by decide +kernel
theorem dL_isAhead_125 : decode cL_isAhead 125 = .ok (.aload_n 2, 1) := by decide +kernel
theorem dL_isAhead_126 : decode cL_isAhead 126 = .ok (.aload_n 3, 1) := by decide +kernel
theorem dL_isAhead_127 : decode cL_isAhead 127 = .ok (.aload 4, 2) := by decide +kernel
theorem dL_isAhead_129 : decode cL_isAhead 129 = .ok (.aload 4, 2) := by decide +kernel
theorem dL_isAhead_131 : decode cL_isAhead 131 = .ok (.iconst 1, 1) := by decide +kernel
theorem dL_isAhead_132 : decode cL_isAhead 132 = .ok (.iaload, 1) := by decide +kernel
theorem dL_isAhead_133 : decode cL_isAhead 133 = .ok (.iload 13, 2) := by decide +kernel
theorem dL_isAhead_135 : decode cL_isAhead 135 = .ok (.aload 5, 2) := by decide +kernel
theorem dL_isAhead_137 : decode cL_isAhead 137 = .ok (.aload 6, 2) := by decide +kernel
theorem dL_isAhead_139 : decode cL_isAhead 139 = .ok (.aload 7, 2) := by decide +kernel
theorem dL_isAhead_141 : decode cL_isAhead 141 = .ok (.invokestatic 69, 3) := by decide +kernel
theorem dL_isAhead_144 : decode cL_isAhead 144 = .ok (.istore 14, 2) := by decide +kernel
theorem dL_isAhead_146 : decode cL_isAhead 146 = .ok (.iload 14, 2) := by decide +kernel
theorem dL_isAhead_148 : decode cL_isAhead 148 = .ok (.iload 12, 2) := by decide +kernel
theorem dL_isAhead_150 : decode cL_isAhead 150 = .ok (.if_icmp .ge 8, 3) := by decide +kernel
theorem dL_isAhead_153 : decode cL_isAhead 153 = .ok (.iload 13, 2) := by decide +kernel
theorem dL_isAhead_155 : decode cL_isAhead 155 = .ok (.goto 5, 3) := by decide +kernel
theorem dL_isAhead_158 : decode cL_isAhead 158 = .ok (.iload 11, 2) := by decide +kernel
theorem dL_isAhead_160 : decode cL_isAhead 160 = .ok (.istore 11, 2) := by decide +kernel
theorem dL_isAhead_162 : decode cL_isAhead 162 = .ok (.iload 14, 2) := by decide +kernel
theorem dL_isAhead_164 : decode cL_isAhead 164 = .ok (.iload 12, 2) := by decide +kernel
theorem dL_isAhead_166 : decode cL_isAhead 166 = .ok (.if_icmp .ge 8, 3) := by decide +kernel
theorem dL_isAhead_169 : decode cL_isAhead 169 = .ok (.iload 14, 2) := by decide +kernel
theorem dL_isAhead_171 : decode cL_isAhead 171 = .ok (.goto 5, 3) := by decide +kernel
theorem dL_isAhead_174 : decode cL_isAhead 174 = .ok (.iload 12, 2) := by decide +kernel
theorem dL_isAhead_176 : decode cL_isAhead 176 = .ok (.istore 12, 2) := by decide +kernel
theorem dL_isAhead_178 : decode cL_isAhead 178 = .ok (.iinc 13 1, 3) := by decide +kernel
theorem dL_isAhead_181 : decode cL_isAhead 181 = .ok (.goto (-73), 3) := by decide +kernel
theorem dL_isAhead_184 : decode cL_isAhead 184 = .ok (.aload_n 0, 1) := by decide +kernel
theorem dL_isAhead_185 : decode cL_isAhead 185 = .ok (.iload 8, 2) := by decide +kernel
theorem dL_isAhead_187 : decode cL_isAhead 187 = .ok (.iconst 0, 1) := by decide +kernel
theorem dL_isAhead_188 : decode cL_isAhead 188 = .ok (.invokevirtual 73, 3) := by decide +kernel
theorem dL_isAhead_191 : decode cL_isAhead 191 = .ok (.iload 9, 2) := by decide +kernel
theorem dL_isAhead_193 : decode cL_isAhead 193 = .ok (.if_icmp .ne 71, 3) := by decide +kernel
theorem dL_isAhead_196 : decode cL_isAhead 196 = .ok (.aload_n 0, 1) := by decide +kernel
theorem dL_isAhead_197 : decode cL_isAhead 197 = .ok (.iload 8, 2) := by decide +kernel
theorem dL_isAhead_199 : decode cL_isAhead 199 = .ok (.iconst 1, 1) := by decide +kernel
theorem dL_isAhead_200 : decode cL_isAhead 200 = .ok (.invokevirtual 73, 3) := by decide +kernel
theorem dL_isAhead_203 : decode cL_isAhead 203 = .ok (.iload 9, 2) := by decide +kernel
theorem dL_isAhead_205 : decode cL_isAhead 205 = .ok (.if_icmp .ne 59, 3) := by decide +kernel
theorem dL_isAhead_208 : decode cL_isAhead 208 = .ok (.aload_n 0, 1) := by decide +kernel
theorem dL_isAhead_209 : decode cL_isAhead 209 = .ok (.invokevirtual 76, 3) := by decide +kernel
theorem dL_isAhead_212 : decode cL_isAhead 212 = .ok (.iload 10, 2) := by decide +kernel
theorem dL_isAhead_214 : decode cL_isAhead 214 = .ok (.if_icmp .ne 50, 3) := by decide +kernel
theorem dL_isAhead_217 : decode cL_isAhead 217 = .ok (.aload_n 0, 1) := by decide +kernel
theorem dL_isAhead_218 : decode cL_isAhead 218 = .ok (.invokevirtual 80, 3) := by decide +kernel
theorem dL_isAhead_221 : decode cL_isAhead 221 = .ok (.iload 11, 2) := by decide +kernel
theorem dL_isAhead_223 : decode cL_isAhead 223 = .ok (.if_icmp .ne 41, 3) := by decide +kernel
theorem dL_isAhead_226 : decode cL_isAhead 226 = .ok (.aload_n 0, 1) := by decide +kernel
theorem dL_isAhead_227 : decode cL_isAhead 227 = .ok (.iconst 0, 1) := by decide +kernel
theorem dL_isAhead_228 : decode cL_isAhead 228 = .ok (.iconst 0, 1) := by decide +kernel
theorem dL_isAhead_229 : decode cL_isAhead 229 = .ok (.invokevirtual 73, 3) := by decide +kernel
theorem dL_isAhead_232 : decode cL_isAhead 232 = .ok (.bipush (-2), 2) := by decide +kernel
theorem dL_isAhead_234 : decode cL_isAhead 234 = .ok (.if_icmp .ne 30, 3) := by decide +kernel
theorem dL_isAhead_237 : decode cL_isAhead 237 = .ok (.aload_n 0, 1) := by decide +kernel
theorem dL_isAhead_238 : decode cL_isAhead 238 = .ok (.bipush 21, 2) := by decide +kernel
theorem dL_isAhead_240 : decode cL_isAhead 240 = .ok (.iconst 0, 1) := by decide +kernel
theorem dL_isAhead_241 : decode cL_isAhead 241 = .ok (.invokevirtual 73, 3) := by decide +kernel
theorem dL_isAhead_244 : decode cL_isAhead 244 = .ok (.bipush (-2), 2) := by decide +kernel
theorem dL_isAhead_246 : decode cL_isAhead 246 = .ok (.if_icmp .ne 18, 3) := by decide +kernel
theorem dL_isAhead_249 : decode cL_isAhead 249 = .ok (.aload_n 0, 1) := by decide +kernel
theorem dL_isAhead_250 : decode cL_isAhead 250 = .ok (.iconst 1, 1) := by decide +kernel
theorem dL_isAhead_251 : decode cL_isAhead 251 = .ok (.iconst 2, 1) := by decide +kernel
theorem dL_isAhead_252 : decode cL_isAhead 252 = .ok (.invokevirtual 73, 3) := by decide +kernel
theorem dL_isAhead_255 : decode cL_isAhead 255 = .ok (.bipush (-2), 2) := by decide +kernel
theorem dL_isAhead_257 : decode cL_isAhead 257 = .ok (.if_icmp .ne 7, 3) := by decide +kernel
theorem dL_isAhead_260 : decode cL_isAhead 260 = .ok (.iconst 1, 1) := by decide +kernel
theorem dL_isAhead_261 : decode cL_isAhead 261 = .ok (.goto 4, 3) := by decide +kernel
theorem dL_isAhead_264 : decode cL_isAhead 264 = .ok (.iconst 0, 1) := by decide +kernel
theorem dL_isAhead_265 : decode cL_isAhead 265 = .ok (.ireturn, 1) := by decide +kernel
theorem dL_cards_0 : decode cL_cards 0 = .ok (.iload_n 1, 1) := by decide +kernel
theorem dL_cards_1 : decode cL_cards 1 = .ok (.bipush 12, 2) := by decide +kernel
theorem dL_cards_3 : decode cL_cards 3 = .ok (.invokestatic 66, 3) := by decide +kernel
theorem dL_cards_6 : decode cL_cards 6 = .ok (.istore 6, 2) := by decide +kernel
theorem dL_cards_8 : decode cL_cards 8 = .ok (.bipush 52, 2) := by decide +kernel
theorem dL_cards_10 : decode cL_cards 10 = .ok (.newarray .int, 2) := by decide +kernel
theorem dL_cards_12 : decode cL_cards 12 = .ok (.astore 7, 2) := by decide +kernel
theorem dL_cards_14 : decode cL_cards 14 = .ok (.aload_n 3, 1) := by decide +kernel
theorem dL_cards_15 : decode cL_cards 15 = .ok (.aload 7, 2) := by decide +kernel
theorem dL_cards_17 : decode cL_cards 17 = .ok (.invokestatic 15, 3) := by decide +kernel
theorem dL_cards_20 : decode cL_cards 20 = .ok (.iload 6, 2) := by decide +kernel
theorem dL_cards_22 : decode cL_cards 22 = .ok (.iconst 3, 1) := by decide +kernel
theorem dL_cards_23 : decode cL_cards 23 = .ok (.if_icmp .ge 88, 3) := by decide +kernel
theorem dL_cards_26 : decode cL_cards 26 = .ok (.iload_n 2, 1) := by decide +kernel
theorem dL_cards_27 : decode cL_cards 27 = .ok (.bipush 52, 2) := by decide +kernel
theorem dL_cards_29 : decode cL_cards 29 = .ok (.invokestatic 66, 3) := by decide +kernel
theorem dL_cards_32 : decode cL_cards 32 = .ok (.istore 8, 2) := by decide +kernel
theorem dL_cards_34 : decode cL_cards 34 = .ok (.aload 4, 2) := by decide +kernel
theorem dL_cards_36 : decode cL_cards 36 = .ok (.iload 8, 2) := by decide +kernel
theorem dL_cards_38 : decode cL_cards 38 = .ok (.iconst 1, 1) := by decide +kernel
theorem dL_cards_39 : decode cL_cards 39 = .ok (.aload 4, 2) := by decide +kernel
theorem dL_cards_41 : decode cL_cards 41 = .ok (.iload 8, 2) := by decide +kernel
theorem dL_cards_43 : decode cL_cards 43 = .ok (.iaload, 1) := by decide +kernel
theorem dL_cards_44 : decode cL_cards 44 = .ok (.isub, 1) := by decide +kernel
theorem dL_cards_45 : decode cL_cards 45 = .ok (.iastore, 1) := by decide +kernel
theorem dL_cards_46 : decode cL_cards 46 = .ok (.iconst 0, 1) := by decide +kernel
theorem dL_cards_47 : decode cL_cards 47 = .ok (.istore 9, 2) := by decide +kernel
theorem dL_cards_49 : decode cL_cards 49 = .ok (.iconst 0, 1) := by decide +kernel
theorem dL_cards_50 : decode cL_cards 50 = .ok (.istore 10, 2) := by decide +kernel
theorem dL_cards_52 : decode cL_cards 52 = .ok (.iload 10, 2) := by decide +kernel
theorem dL_cards_54 : decode cL_cards 54 = .ok (.bipush 52, 2) := by decide +kernel
theorem dL_cards_56 : decode cL_cards 56 = .ok (.if_icmp .ge 19, 3) := by decide +kernel
theorem dL_cards_59 : decode cL_cards 59 = .ok (.iload 9, 2) := by decide +kernel
theorem dL_cards_61 : decode cL_cards 61 = .ok (.aload 4, 2) := by decide +kernel
theorem dL_cards_63 : decode cL_cards 63 = .ok (.iload 10, 2) := by decide +kernel
theorem dL_cards_65 : decode cL_cards 65 = .ok (.iaload, 1) := by decide +kernel
theorem dL_cards_66 : decode cL_cards 66 = .ok (.iadd, 1) := by decide +kernel
theorem dL_cards_67 : decode cL_cards 67 = .ok (.istore 9, 2) := by decide +kernel
theorem dL_cards_69 : decode cL_cards 69 = .ok (.iinc 10 1, 3) := by decide +kernel
theorem dL_cards_72 : decode cL_cards 72 = .ok (.goto (-20), 3) := by decide +kernel
theorem dL_cards_75 : decode cL_cards 75 = .ok (.aload_n 0, 1) := by decide +kernel
theorem dL_cards_76 : decode cL_cards 76 = .ok (.iload 8, 2) := by decide +kernel
theorem dL_cards_78 : decode cL_cards 78 = .ok (.invokevirtual 83, 3) := by decide +kernel
theorem dL_cards_81 : decode cL_cards 81 = .ok (.iload 9, 2) := by decide +kernel
theorem dL_cards_83 : decode cL_cards 83 = .ok (.if_icmp .ne 26, 3) := by decide +kernel
theorem dL_cards_86 : decode cL_cards 86 = .ok (.aload_n 0, 1) := by decide +kernel
theorem dL_cards_87 : decode cL_cards 87 = .ok (.bipush 52, 2) := by decide +kernel
theorem dL_cards_89 : decode cL_cards 89 = .ok (.invokevirtual 83, 3) := by decide +kernel
theorem dL_cards_92 : decode cL_cards 92 = .ok (.iconst (-1), 1) := by decide +kernel
theorem dL_cards_93 : decode cL_cards 93 = .ok (.if_icmp .ne 16, 3) := by decide +kernel
theorem dL_cards_96 : decode cL_cards 96 = .ok (.aload_n 0, 1) := by decide +kernel
theorem dL_cards_97 : decode cL_cards 97 = .ok (.iconst (-1), 1) := by decide +kernel
theorem dL_cards_98 : decode cL_cards 98 = .ok (.invokevirtual 83, 3) := by decide +kernel
theorem dL_cards_101 : decode cL_cards 101 = .ok (.iconst (-1), 1) := by decide +kernel
theorem dL_cards_102 : decode cL_cards 102 = .ok (.if_icmp .ne 7, 3) := by decide +kernel
theorem dL_cards_105 : decode cL_cards 105 = .ok (.iconst 1, 1) := by decide +kernel
theorem dL_cards_106 : decode cL_cards 106 = .ok (.goto 4, 3) := by decide +kernel
theorem dL_cards_109 : decode cL_cards 109 = .ok (.iconst 0, 1) := by decide +kernel
theorem dL_cards_110 : decode cL_cards 110 = .ok (.ireturn, 1) := by decide +kernel
theorem dL_cards_111 : decode cL_cards 111 = .ok (.iload 6, 2) := by decide +kernel
theorem dL_cards_113 : decode cL_cards 113 = .ok (.bipush 8, 2) := by decide +kernel
theorem dL_cards_115 : decode cL_cards 115 = .ok (.if_icmp .ge 105, 3) := by decide +kernel
theorem dL_cards_118 : decode cL_cards 118 = .ok (.bipush 52, 2) := by decide +kernel
theorem dL_cards_120 : decode cL_cards 120 = .ok (.newarray .int, 2) := by decide +kernel
theorem dL_cards_122 : decode cL_cards 122 = .ok (.astore 8, 2) := by decide +kernel
theorem dL_cards_124 : decode cL_cards 124 = .ok (.iconst 0, 1) := by decide +kernel
theorem dL_cards_125 : decode cL_cards 125 = .ok (.istore 9, 2) := by decide +kernel
theorem dL_cards_127 : decode cL_cards 127 = .ok (.iload 9, 2) := by decide +kernel
theorem dL_cards_129 : decode cL_cards 129 = .ok (.aload 5, 2) := by decide +kernel
theorem dL_cards_131 : decode cL_cards 131 = .ok (.iconst 1, 1) := by decide +kernel
theorem dL_cards_132 : decode cL_cards 132 = .ok (.iaload, 1) := by decide +kernel
theorem dL_cards_133 : decode cL_cards 133 = .ok (.if_icmp .ge 20, 3) := by decide +kernel
theorem dL_cards_136 : decode cL_cards 136 = .ok (.aload_n 3, 1) := by decide +kernel
theorem dL_cards_137 : decode cL_cards 137 = .ok (.aload 4, 2) := by decide +kernel
theorem dL_cards_139 : decode cL_cards 139 = .ok (.aload 5, 2) := by decide +kernel
theorem dL_cards_141 : decode cL_cards 141 = .ok (.iconst (-1), 1) := by decide +kernel
theorem dL_cards_142 : decode cL_cards 142 = .ok (.aload 8, 2) := by decide +kernel
theorem dL_cards_144 : decode cL_cards 144 = .ok (.invokestatic 25, 3) := by decide +kernel
theorem dL_cards_147 : decode cL_cards 147 = .ok (.iinc 9 1, 3) := by decide +kernel
theorem dL_cards_150 : decode cL_cards 150 = .ok (.goto (-23), 3) := by decide +kernel
theorem dL_cards_153 : decode cL_cards 153 = .ok (.aload 5, 2) := by decide +kernel
theorem dL_cards_155 : decode cL_cards 155 = .ok (.iconst 4, 1) := by decide +kernel
theorem dL_cards_156 : decode cL_cards 156 = .ok (.aload 7, 2) := by decide +kernel
theorem dL_cards_158 : decode cL_cards 158 = .ok (.aload_n 3, 1) := by decide +kernel
theorem dL_cards_159 : decode cL_cards 159 = .ok (.invokestatic 29, 3) := by decide +kernel
theorem dL_cards_162 : decode cL_cards 162 = .ok (.iastore, 1) := by decide +kernel
theorem dL_cards_163 : decode cL_cards 163 = .ok (.aload 5, 2) := by decide +kernel
theorem dL_cards_165 : decode cL_cards 165 = .ok (.iconst 3, 1) := by decide +kernel
theorem dL_cards_166 : decode cL_cards 166 = .ok (.aload 5, 2) := by decide +kernel
theorem dL_cards_168 : decode cL_cards 168 = .ok (.iconst 4, 1) := by decide +kernel
theorem dL_cards_169 : decode cL_cards 169 = .ok (.iaload, 1) := by decide +kernel
theorem dL_cards_170 : decode cL_cards 170 = .ok (.aload 5, 2) := by decide +kernel
theorem dL_cards_172 : decode cL_cards 172 = .ok (.iconst 0, 1) := by decide +kernel
theorem dL_cards_173 : decode cL_cards 173 = .ok (.iaload, 1) := by decide +kernel
theorem dL_cards_174 : decode cL_cards 174 = .ok (.if_icmp .gt 7, 3) := by decide +kernel
theorem dL_cards_177 : decode cL_cards 177 = .ok (.iconst 1, 1) := by decide +kernel
theorem dL_cards_178 : decode cL_cards 178 = .ok (.goto 4, 3) := by decide +kernel
theorem dL_cards_181 : decode cL_cards 181 = .ok (.iconst 0, 1) := by decide +kernel
theorem dL_cards_182 : decode cL_cards 182 = .ok (.iastore, 1) := by decide +kernel
theorem dL_cards_183 : decode cL_cards 183 = .ok (.aload 5, 2) := by decide +kernel
theorem dL_cards_185 : decode cL_cards 185 = .ok (.iconst 5, 1) := by decide +kernel
theorem dL_cards_186 : decode cL_cards 186 = .ok (.dup2, 1) := by decide +kernel
theorem dL_cards_187 : decode cL_cards 187 = .ok (.iaload, 1) := by decide +kernel
theorem dL_cards_188 : decode cL_cards 188 = .ok (.iconst 1, 1) := by decide +kernel
theorem dL_cards_189 : decode cL_cards 189 = .ok (.iadd, 1) := by decide +kernel
theorem dL_cards_190 : decode cL_cards 190 = .ok (.iastore, 1) := by decide +kernel
theorem dL_cards_191 : decode cL_cards 191 = .ok (.aload 5, 2) := by decide +kernel
theorem dL_cards_193 : decode cL_cards 193 = .ok (.bipush 6, 2) := by decide +kernel
theorem dL_cards_195 : decode cL_cards 195 = .ok (.dup2, 1) := by decide +kernel
theorem dL_cards_196 : decode cL_cards 196 = .ok (.iaload, 1) := by decide +kernel
theorem dL_cards_197 : decode cL_cards 197 = .ok (.aload 5, 2) := by decide +kernel
theorem dL_cards_199 : decode cL_cards 199 = .ok (.iconst 3, 1) := by decide +kernel
theorem dL_cards_200 : decode cL_cards 200 = .ok (.iaload, 1) := by decide +kernel
theorem dL_cards_201 : decode cL_cards 201 = .ok (.iadd, 1) := by decide +kernel
theorem dL_cards_202 : decode cL_cards 202 = .ok (.iastore, 1) := by decide +kernel
theorem dL_cards_203 : decode cL_cards 203 = .ok (.aload_n 0, 1) := by decide +kernel
theorem dL_cards_204 : decode cL_cards 204 = .ok (.invokevirtual 86, 3) := by decide +kernel
theorem dL_cards_207 : decode cL_cards 207 = .ok (.aload 5, 2) := by decide +kernel
theorem dL_cards_209 : decode cL_cards 209 = .ok (.iconst 4, 1) := by decide +kernel
theorem dL_cards_210 : decode cL_cards 210 = .ok (.iaload, 1) := by decide +kernel
theorem dL_cards_211 : decode cL_cards 211 = .ok (.if_icmp .ne 7, 3) := by decide +kernel
theorem dL_cards_214 : decode cL_cards 214 = .ok (.iconst 1, 1) := by decide +kernel
theorem dL_cards_215 : decode cL_cards 215 = .ok (.goto 4, 3) := by decide +kernel
theorem dL_cards_218 : decode cL_cards 218 = .ok (.iconst 0, 1) := by decide +kernel
theorem dL_cards_219 : decode cL_cards 219 = .ok (.ireturn, 1) := by decide +kernel
theorem dL_cards_220 : decode cL_cards 220 = .ok (.iload 6, 2) := by decide +kernel
theorem dL_cards_222 : decode cL_cards 222 = .ok (.bipush 8, 2) := by decide +kernel
theorem dL_cards_224 : decode cL_cards 224 = .ok (.if_icmp .ne 83, 3) := by decide +kernel
theorem dL_cards_227 : decode cL_cards 227 = .ok (.iconst 1, 1) := by decide +kernel
theorem dL_cards_228 : decode cL_cards 228 = .ok (.iload_n 2, 1) := by decide +kernel
theorem dL_cards_229 : decode cL_cards 229 = .ok (.bipush 51, 2) := by decide +kernel
theorem dL_cards_231 : decode cL_cards 231 = .ok (.invokestatic 66, 3) := by decide +kernel
theorem dL_cards_234 : decode cL_cards 234 = .ok (.iadd, 1) := by decide +kernel
theorem dL_cards_235 : decode cL_cards 235 = .ok (.istore 8, 2) := by decide +kernel
theorem dL_cards_237 : decode cL_cards 237 = .ok (.iconst 0, 1) := by decide +kernel
theorem dL_cards_238 : decode cL_cards 238 = .ok (.istore 9, 2) := by decide +kernel
theorem dL_cards_240 : decode cL_cards 240 = .ok (.iload 9, 2) := by decide +kernel
theorem dL_cards_242 : decode cL_cards 242 = .ok (.bipush 52, 2) := by decide +kernel
theorem dL_cards_244 : decode cL_cards 244 = .ok (.if_icmp .ge 24, 3) := by decide +kernel
theorem dL_cards_247 : decode cL_cards 247 = .ok (.aload_n 3, 1) := by decide +kernel
theorem dL_cards_248 : decode cL_cards 248 = .ok (.iload 9, 2) := by decide +kernel
theorem dL_cards_250 : decode cL_cards 250 = .ok (.aload 7, 2) := by decide +kernel
theorem dL_cards_252 : decode cL_cards 252 = .ok (.iload 9, 2) := by decide +kernel
theorem dL_cards_254 : decode cL_cards 254 = .ok (.iload 8, 2) := by decide +kernel
theorem dL_cards_256 : decode cL_cards 256 = .ok (.iadd, 1) := by decide +kernel
theorem dL_cards_257 : decode cL_cards 257 = .ok (.bipush 52, 2) := by decide +kernel
theorem dL_cards_259 : decode cL_cards 259 = .ok (.irem, 1) := by decide +kernel
theorem dL_cards_260 : decode cL_cards 260 = .ok (.iaload, 1) := by decide +kernel
theorem dL_cards_261 : decode cL_cards 261 = .ok (.iastore, 1) := by decide +kernel
theorem dL_cards_262 : decode cL_cards 262 = .ok (.iinc 9 1, 3) := by decide +kernel
theorem dL_cards_265 : decode cL_cards 265 = .ok (.goto (-25), 3) := by decide +kernel
theorem dL_cards_268 : decode cL_cards 268 = .ok (.aload_n 0, 1) := by decide +kernel
theorem dL_cards_269 : decode cL_cards 269 = .ok (.iload 8, 2) := by decide +kernel
theorem dL_cards_271 : decode cL_cards 271 = .ok (.invokevirtual 89, 3) := by decide +kernel
theorem dL_cards_274 : decode cL_cards 274 = .ok (.aload_n 3, 1) := by decide +kernel
theorem dL_cards_275 : decode cL_cards 275 = .ok (.iconst 0, 1) := by decide +kernel
theorem dL_cards_276 : decode cL_cards 276 = .ok (.iaload, 1) := by decide +kernel
theorem dL_cards_277 : decode cL_cards 277 = .ok (.if_icmp .ne 28, 3) := by decide +kernel
theorem dL_cards_280 : decode cL_cards 280 = .ok (.aload_n 0, 1) := by decide +kernel
theorem dL_cards_281 : decode cL_cards 281 = .ok (.iconst 0, 1) := by decide +kernel
theorem dL_cards_282 : decode cL_cards 282 = .ok (.invokevirtual 89, 3) := by decide +kernel
theorem dL_cards_285 : decode cL_cards 285 = .ok (.bipush (-2), 2) := by decide +kernel
theorem dL_cards_287 : decode cL_cards 287 = .ok (.if_icmp .ne 18, 3) := by decide +kernel
theorem dL_cards_290 : decode cL_cards 290 = .ok (.aload_n 0, 1) := by decide +kernel
theorem dL_cards_291 : decode cL_cards 291 = .ok (.bipush 52, 2) := by decide +kernel
theorem dL_cards_293 : decode cL_cards 293 = .ok (.invokevirtual 89, 3) := by decide +kernel
theorem dL_cards_296 : decode cL_cards 296 = .ok (.bipush (-2), 2) := by decide +kernel
theorem dL_cards_298 : decode cL_cards 298 = .ok (.if_icmp .ne 7, 3) := by decide +kernel
theorem dL_cards_301 : decode cL_cards 301 = .ok (.iconst 1, 1) := by decide +kernel
theorem dL_cards_302 : decode cL_cards 302 = .ok (.goto 4, 3) := by decide +kernel
theorem dL_cards_305 : decode cL_cards 305 = .ok (.iconst 0, 1) := by decide +kernel
theorem dL_cards_306 : decode cL_cards 306 = .ok (.ireturn, 1) := by decide +kernel
theorem dL_cards_307 : decode cL_cards 307 = .ok (.iload 6, 2) := by decide +kernel
theorem dL_cards_309 : decode cL_cards 309 = .ok (.bipush 9, 2) := by decide +kernel
theorem dL_cards_311 : decode cL_cards 311 = .ok (.if_icmp .ne 73, 3) := by decide +kernel
theorem dL_cards_314 : decode cL_cards 314 = .ok (.iload_n 2, 1) := by decide +kernel
theorem dL_cards_315 : decode cL_cards 315 = .ok (.iconst 3, 1) := by decide +kernel
theorem dL_cards_316 : decode cL_cards 316 = .ok (.iand, 1) := by decide +kernel
theorem dL_cards_317 : decode cL_cards 317 = .ok (.ifCond .ne 67, 3) := by decide +kernel
theorem dL_cards_320 : decode cL_cards 320 = .ok (.iconst 0, 1) := by decide +kernel
theorem dL_cards_321 : decode cL_cards 321 = .ok (.istore 8, 2) := by decide +kernel
theorem dL_cards_323 : decode cL_cards 323 = .ok (.iconst 0, 1) := by decide +kernel
theorem dL_cards_324 : decode cL_cards 324 = .ok (.istore 9, 2) := by decide +kernel
theorem dL_cards_326 : decode cL_cards 326 = .ok (.iload 9, 2) := by decide +kernel
theorem dL_cards_328 : decode cL_cards 328 = .ok (.bipush 52, 2) := by decide +kernel
theorem dL_cards_330 : decode cL_cards 330 = .ok (.if_icmp .ge 34, 3) := by decide +kernel
theorem dL_cards_333 : decode cL_cards 333 = .ok (.iload 8, 2) := by decide +kernel
theorem dL_cards_335 : decode cL_cards 335 = .ok (.aload_n 3, 1) := by decide +kernel
theorem dL_cards_336 : decode cL_cards 336 = .ok (.iload 9, 2) := by decide +kernel
theorem dL_cards_338 : decode cL_cards 338 = .ok (.iaload, 1) := by decide +kernel
theorem dL_cards_339 : decode cL_cards 339 = .ok (.iload 9, 2) := by decide +kernel
theorem dL_cards_341 : decode cL_cards 341 = .ok (.if_icmp .eq 7, 3) := by decide +kernel
theorem dL_cards_344 : decode cL_cards 344 = .ok (.iconst 1, 1) := by decide +kernel
theorem dL_cards_345 : decode cL_cards 345 = .ok (.goto 4, 3) := by decide +kernel
theorem dL_cards_348 : decode cL_cards 348 = .ok (.iconst 0, 1) := by decide +kernel
theorem dL_cards_349 : decode cL_cards 349 = .ok (.iadd, 1) := by decide +kernel
theorem dL_cards_350 : decode cL_cards 350 = .ok (.istore 8, 2) := by decide +kernel
theorem dL_cards_352 : decode cL_cards 352 = .ok (.aload_n 3, 1) := by decide +kernel
theorem dL_cards_353 : decode cL_cards 353 = .ok (.iload 9, 2) := by decide +kernel
theorem dL_cards_355 : decode cL_cards 355 = .ok (.iload 9, 2) := by decide +kernel
theorem dL_cards_357 : decode cL_cards 357 = .ok (.iastore, 1) := by decide +kernel
theorem dL_cards_358 : decode cL_cards 358 = .ok (.iinc 9 1, 3) := by decide +kernel
theorem dL_cards_361 : decode cL_cards 361 = .ok (.goto (-35), 3) := by decide +kernel
theorem dL_cards_364 : decode cL_cards 364 = .ok (.aload 5, 2) := by decide +kernel
theorem dL_cards_366 : decode cL_cards 366 = .ok (.iconst 3, 1) := by decide +kernel
theorem dL_cards_367 : decode cL_cards 367 = .ok (.iconst 0, 1) := by decide +kernel
theorem dL_cards_368 : decode cL_cards 368 = .ok (.iastore, 1) := by decide +kernel
theorem dL_cards_369 : decode cL_cards 369 = .ok (.aload_n 0, 1) := by decide +kernel
theorem dL_cards_370 : decode cL_cards 370 = .ok (.invokevirtual 92, 3) := by decide +kernel
theorem dL_cards_373 : decode cL_cards 373 = .ok (.iload 8, 2) := by decide +kernel
theorem dL_cards_375 : decode cL_cards 375 = .ok (.if_icmp .ne 7, 3) := by decide +kernel
theorem dL_cards_378 : decode cL_cards 378 = .ok (.iconst 1, 1) := by decide +kernel
theorem dL_cards_379 : decode cL_cards 379 = .ok (.goto 4, 3) := by decide +kernel
theorem dL_cards_382 : decode cL_cards 382 = .ok (.iconst 0, 1) := by decide +kernel
theorem dL_cards_383 : decode cL_cards 383 = .ok (.ireturn, 1) := by decide +kernel
theorem dL_cards_384 : decode cL_cards 384 = .ok (.iload 6, 2) := by decide +kernel
theorem dL_cards_386 : decode cL_cards 386 = .ok (.bipush 10, 2) := by decide +kernel
theorem dL_cards_388 : decode cL_cards 388 = .ok (.if_icmp .ne 46, 3) := by decide +kernel
theorem dL_cards_391 : decode cL_cards 391 = .ok (.aload 5, 2) := by decide +kernel
theorem dL_cards_393 : decode cL_cards 393 = .ok (.iconst 2, 1) := by decide +kernel
theorem dL_cards_394 : decode cL_cards 394 = .ok (.iaload, 1) := by decide +kernel
theorem dL_cards_395 : decode cL_cards 395 = .ok (.istore 8, 2) := by decide +kernel
theorem dL_cards_397 : decode cL_cards 397 = .ok (.aload 5, 2) := by decide +kernel
theorem dL_cards_399 : decode cL_cards 399 = .ok (.iconst 2, 1) := by decide +kernel
theorem dL_cards_400 : decode cL_cards 400 = .ok (.iload_n 2, 1) := by decide +kernel
theorem dL_cards_401 : decode cL_cards 401 = .ok (.ldc 8, 2) := by decide +kernel
theorem dL_cards_403 : decode cL_cards 403 = .ok (.iand, 1) := by decide +kernel
theorem dL_cards_404 : decode cL_cards 404 = .ok (.iastore, 1) := by decide +kernel
theorem dL_cards_405 : decode cL_cards 405 = .ok (.aload_n 0, 1) := by decide +kernel
theorem dL_cards_406 : decode cL_cards 406 = .ok (.aload 5, 2) := by decide +kernel
theorem dL_cards_408 : decode cL_cards 408 = .ok (.iconst 2, 1) := by decide +kernel
theorem dL_cards_409 : decode cL_cards 409 = .ok (.iaload, 1) := by decide +kernel
theorem dL_cards_410 : decode cL_cards 410 = .ok (.invokevirtual 95, 3) := by decide +kernel
theorem dL_cards_413 : decode cL_cards 413 = .ok (.iload 8, 2) := by decide +kernel
theorem dL_cards_415 : decode cL_cards 415 = .ok (.if_icmp .ne 17, 3) := by decide +kernel
theorem dL_cards_418 : decode cL_cards 418 = .ok (.aload_n 0, 1) := by decide +kernel
theorem dL_cards_419 : decode cL_cards 419 = .ok (.iconst (-1), 1) := by decide +kernel
theorem dL_cards_420 : decode cL_cards 420 = .ok (.invokevirtual 95, 3) := by decide +kernel
theorem dL_cards_423 : decode cL_cards 423 = .ok (.bipush (-2), 2) := by decide +kernel
theorem dL_cards_425 : decode cL_cards 425 = .ok (.if_icmp .ne 7, 3) := by decide +kernel
theorem dL_cards_428 : decode cL_cards 428 = .ok (.iconst 1, 1) := by decide +kernel
theorem dL_cards_429 : decode cL_cards 429 = .ok (.goto 4, 3) := by decide +kernel
theorem dL_cards_432 : decode cL_cards 432 = .ok (.iconst 0, 1) := by decide +kernel
theorem dL_cards_433 : decode cL_cards 433 = .ok (.ireturn, 1) := by decide +kernel
theorem dL_cards_434 : decode cL_cards 434 = .ok (.iload_n 2, 1) := by decide +kernel
theorem dL_cards_435 : decode cL_cards 435 = .ok (.iconst 1, 1) := by decide +kernel
theorem dL_cards_436 : decode cL_cards 436 = .ok (.iand, 1) := by decide +kernel
theorem dL_cards_437 : decode cL_cards 437 = .ok (.istore 8, 2) := by decide +kernel
theorem dL_cards_439 : decode cL_cards 439 = .ok (.aload 5, 2) := by decide +kernel
theorem dL_cards_441 : decode cL_cards 441 = .ok (.iload 8, 2) := by decide +kernel
theorem dL_cards_443 : decode cL_cards 443 = .ok (.iaload, 1) := by decide +kernel
theorem dL_cards_444 : decode cL_cards 444 = .ok (.istore 9, 2) := by decide +kernel
theorem dL_cards_446 : decode cL_cards 446 = .ok (.aload 5, 2) := by decide +kernel
theorem dL_cards_448 : decode cL_cards 448 = .ok (.iload 8, 2) := by decide +kernel
theorem dL_cards_450 : decode cL_cards 450 = .ok (.iload 8, 2) := by decide +kernel
theorem dL_cards_452 : decode cL_cards 452 = .ok (.ifCond .ne 28, 3) := by decide +kernel
theorem dL_cards_455 : decode cL_cards 455 = .ok (.iload_n 2, 1) := by decide +kernel
theorem dL_cards_456 : decode cL_cards 456 = .ok (.iconst 1, 1) := by decide +kernel
theorem dL_cards_457 : decode cL_cards 457 = .ok (.ishr, 1) := by decide +kernel
theorem dL_cards_458 : decode cL_cards 458 = .ok (.iload_n 2, 1) := by decide +kernel
theorem dL_cards_459 : decode cL_cards 459 = .ok (.bipush 20, 2) := by decide +kernel
theorem dL_cards_461 : decode cL_cards 461 = .ok (.ishr, 1) := by decide +kernel
theorem dL_cards_462 : decode cL_cards 462 = .ok (.iconst 1, 1) := by decide +kernel
theorem dL_cards_463 : decode cL_cards 463 = .ok (.iand, 1) := by decide +kernel
theorem dL_cards_464 : decode cL_cards 464 = .ok (.ifCond .ne 8, 3) := by decide +kernel
theorem dL_cards_467 : decode cL_cards 467 = .ok (.bipush 12, 2) := by decide +kernel
theorem dL_cards_469 : decode cL_cards 469 = .ok (.goto 5, 3) := by decide +kernel
theorem dL_cards_472 : decode cL_cards 472 = .ok (.bipush 52, 2) := by decide +kernel
theorem dL_cards_474 : decode cL_cards 474 = .ok (.invokestatic 66, 3) := by decide +kernel
theorem dL_cards_477 : decode cL_cards 477 = .ok (.goto 13, 3) := by decide +kernel
theorem dL_cards_480 : decode cL_cards 480 = .ok (.iconst 1, 1) := by decide +kernel
theorem dL_cards_481 : decode cL_cards 481 = .ok (.iload_n 2, 1) := by decide +kernel
theorem dL_cards_482 : decode cL_cards 482 = .ok (.iconst 1, 1) := by decide +kernel
theorem dL_cards_483 : decode cL_cards 483 = .ok (.ishr, 1) := by decide +kernel
theorem dL_cards_484 : decode cL_cards 484 = .ok (.bipush 9, 2) := by decide +kernel
theorem dL_cards_486 : decode cL_cards 486 = .ok (.invokestatic 66, 3) := by decide +kernel
theorem dL_cards_489 : decode cL_cards 489 = .ok (.iadd, 1) := by decide +kernel
theorem dL_cards_490 : decode cL_cards 490 = .ok (.iastore, 1) := by decide +kernel
theorem dL_cards_491 : decode cL_cards 491 = .ok (.aload_n 0, 1) := by decide +kernel
theorem dL_cards_492 : decode cL_cards 492 = .ok (.iload 8, 2) := by decide +kernel
theorem dL_cards_494 : decode cL_cards 494 = .ok (.aload 5, 2) := by decide +kernel
theorem dL_cards_496 : decode cL_cards 496 = .ok (.iload 8, 2) := by decide +kernel
theorem dL_cards_498 : decode cL_cards 498 = .ok (.iaload, 1) := by decide +kernel
theorem dL_cards_499 : decode cL_cards 499 = .ok (.invokevirtual 98, 3) := by decide +kernel
theorem dL_cards_502 : decode cL_cards 502 = .ok (.iload 9, 2) := by decide +kernel
theorem dL_cards_504 : decode cL_cards 504 = .ok (.if_icmp .ne 41, 3) := by decide +kernel
theorem dL_cards_507 : decode cL_cards 507 = .ok (.aload_n 0, 1) := by decide +kernel
theorem dL_cards_508 : decode cL_cards 508 = .ok (.iconst 1, 1) := by decide +kernel
theorem dL_cards_509 : decode cL_cards 509 = .ok (.iconst 0, 1) := by decide +kernel
theorem dL_cards_510 : decode cL_cards 510 = .ok (.invokevirtual 98, 3) := by decide +kernel
theorem dL_cards_513 : decode cL_cards 513 = .ok (.bipush (-2), 2) := by decide +kernel
theorem dL_cards_515 : decode cL_cards 515 = .ok (.if_icmp .ne 30, 3) := by decide +kernel
theorem dL_cards_518 : decode cL_cards 518 = .ok (.aload_n 0, 1) := by decide +kernel
theorem dL_cards_519 : decode cL_cards 519 = .ok (.iconst 0, 1) := by decide +kernel
theorem dL_cards_520 : decode cL_cards 520 = .ok (.bipush 52, 2) := by decide +kernel
theorem dL_cards_522 : decode cL_cards 522 = .ok (.invokevirtual 98, 3) := by decide +kernel
theorem dL_cards_525 : decode cL_cards 525 = .ok (.bipush (-2), 2) := by decide +kernel
theorem dL_cards_527 : decode cL_cards 527 = .ok (.if_icmp .ne 18, 3) := by decide +kernel
theorem dL_cards_530 : decode cL_cards 530 = .ok (.aload_n 0, 1) := by decide +kernel
theorem dL_cards_531 : decode cL_cards 531 = .ok (.iconst 2, 1) := by decide +kernel
theorem dL_cards_532 : decode cL_cards 532 = .ok (.iconst 1, 1) := by decide +kernel
theorem dL_cards_533 : decode cL_cards 533 = .ok (.invokevirtual 98, 3) := by decide +kernel
theorem dL_cards_536 : decode cL_cards 536 = .ok (.bipush (-2), 2) := by decide +kernel
theorem dL_cards_538 : decode cL_cards 538 = .ok (.if_icmp .ne 7, 3) := by decide +kernel
theorem dL_cards_541 : decode cL_cards 541 = .ok (.iconst 1, 1) := by decide +kernel
theorem dL_cards_542 : decode cL_cards 542 = .ok (.goto 4, 3) := by decide +kernel
theorem dL_cards_545 : decode cL_cards 545 = .ok (.iconst 0, 1) := by decide +kernel
theorem dL_cards_546 : decode cL_cards 546 = .ok (.ireturn, 1) := by decide +kernel
theorem dL_boards_0 : decode cL_boards 0 = .ok (.iload_n 1, 1) := by decide +kernel
theorem dL_boards_1 : decode cL_boards 1 = .ok (.bipush 6, 2) := by decide +kernel
theorem dL_boards_3 : decode cL_boards 3 = .ok (.invokestatic 66, 3) := by decide +kernel
theorem dL_boards_6 : decode cL_boards 6 = .ok (.istore 7, 2) := by decide +kernel
theorem dL_boards_8 : decode cL_boards 8 = .ok (.iload_n 2, 1) := by decide +kernel
theorem dL_boards_9 : decode cL_boards 9 = .ok (.iconst 4, 1) := by decide +kernel
theorem dL_boards_10 : decode cL_boards 10 = .ok (.invokestatic 66, 3) := by decide +kernel
theorem dL_boards_13 : decode cL_boards 13 = .ok (.istore 8, 2) := by decide +kernel
theorem dL_boards_15 : decode cL_boards 15 = .ok (.bipush (-5), 2) := by decide +kernel
theorem dL_boards_17 : decode cL_boards 17 = .ok (.istore 9, 2) := by decide +kernel
theorem dL_boards_19 : decode cL_boards 19 = .ok (.iload 7, 2) := by decide +kernel
theorem dL_boards_21 : decode cL_boards 21 = .ok (.iconst 3, 1) := by decide +kernel
theorem dL_boards_22 : decode cL_boards 22 = .ok (.if_icmp .ge 129, 3) := by decide +kernel
theorem dL_boards_25 : decode cL_boards 25 = .ok (.aload 5, 2) := by decide +kernel
theorem dL_boards_27 : decode cL_boards 27 = .ok (.iconst 3, 1) := by decide +kernel
theorem dL_boards_28 : decode cL_boards 28 = .ok (.iload 8, 2) := by decide +kernel
theorem dL_boards_30 : decode cL_boards 30 = .ok (.imul, 1) := by decide +kernel
theorem dL_boards_31 : decode cL_boards 31 = .ok (.iconst 1, 1) := by decide +kernel
theorem dL_boards_32 : decode cL_boards 32 = .ok (.iadd, 1) := by decide +kernel
theorem dL_boards_33 : decode cL_boards 33 = .ok (.iaload, 1) := by decide +kernel
theorem dL_boards_34 : decode cL_boards 34 = .ok (.iconst 1, 1) := by decide +kernel
theorem dL_boards_35 : decode cL_boards 35 = .ok (.if_icmp .eq 10, 3) := by decide +kernel
theorem dL_boards_38 : decode cL_boards 38 = .ok (.aload 4, 2) := by decide +kernel
theorem dL_boards_40 : decode cL_boards 40 = .ok (.iconst 3, 1) := by decide +kernel
theorem dL_boards_41 : decode cL_boards 41 = .ok (.iaload, 1) := by decide +kernel
theorem dL_boards_42 : decode cL_boards 42 = .ok (.ifCond .ne 29, 3) := by decide +kernel
theorem dL_boards_45 : decode cL_boards 45 = .ok (.aload_n 0, 1) := by decide +kernel
theorem dL_boards_46 : decode cL_boards 46 = .ok (.iload 8, 2) := by decide +kernel
theorem dL_boards_48 : decode cL_boards 48 = .ok (.invokevirtual 101, 3) := by decide +kernel
theorem dL_boards_51 : decode cL_boards 51 = .ok (.iload 9, 2) := by decide +kernel
theorem dL_boards_53 : decode cL_boards 53 = .ok (.if_icmp .ne 16, 3) := by decide +kernel
theorem dL_boards_56 : decode cL_boards 56 = .ok (.aload_n 0, 1) := by decide +kernel
theorem dL_boards_57 : decode cL_boards 57 = .ok (.iconst 4, 1) := by decide +kernel
theorem dL_boards_58 : decode cL_boards 58 = .ok (.invokevirtual 101, 3) := by decide +kernel
theorem dL_boards_61 : decode cL_boards 61 = .ok (.iconst (-1), 1) := by decide +kernel
theorem dL_boards_62 : decode cL_boards 62 = .ok (.if_icmp .ne 7, 3) := by decide +kernel
theorem dL_boards_65 : decode cL_boards 65 = .ok (.iconst 1, 1) := by decide +kernel
theorem dL_boards_66 : decode cL_boards 66 = .ok (.goto 4, 3) := by decide +kernel
theorem dL_boards_69 : decode cL_boards 69 = .ok (.iconst 0, 1) := by decide +kernel
theorem dL_boards_70 : decode cL_boards 70 = .ok (.ireturn, 1) := by decide +kernel
theorem dL_boards_71 : decode cL_boards 71 = .ok (.iconst 0, 1) := by decide +kernel
theorem dL_boards_72 : decode cL_boards 72 = .ok (.istore 10, 2) := by decide +kernel
theorem dL_boards_74 : decode cL_boards 74 = .ok (.iload 10, 2) := by decide +kernel
theorem dL_boards_76 : decode cL_boards 76 = .ok (.bipush 52, 2) := by decide +kernel
theorem dL_boards_78 : decode cL_boards 78 = .ok (.if_icmp .ge 20, 3) := by decide +kernel
theorem dL_boards_81 : decode cL_boards 81 = .ok (.aload 6, 2) := by decide +kernel
theorem dL_boards_83 : decode cL_boards 83 = .ok (.aload_n 3, 1) := by decide +kernel
theorem dL_boards_84 : decode cL_boards 84 = .ok (.iload 10, 2) := by decide +kernel
theorem dL_boards_86 : decode cL_boards 86 = .ok (.iaload, 1) := by decide +kernel
theorem dL_boards_87 : decode cL_boards 87 = .ok (.iload 10, 2) := by decide +kernel
theorem dL_boards_89 : decode cL_boards 89 = .ok (.iconst 3, 1) := by decide +kernel
theorem dL_boards_90 : decode cL_boards 90 = .ok (.iand, 1) := by decide +kernel
theorem dL_boards_91 : decode cL_boards 91 = .ok (.iastore, 1) := by decide +kernel
theorem dL_boards_92 : decode cL_boards 92 = .ok (.iinc 10 1, 3) := by decide +kernel
theorem dL_boards_95 : decode cL_boards 95 = .ok (.goto (-21), 3) := by decide +kernel
theorem dL_boards_98 : decode cL_boards 98 = .ok (.aload 5, 2) := by decide +kernel
theorem dL_boards_100 : decode cL_boards 100 = .ok (.iconst 3, 1) := by decide +kernel
theorem dL_boards_101 : decode cL_boards 101 = .ok (.iload 8, 2) := by decide +kernel
theorem dL_boards_103 : decode cL_boards 103 = .ok (.imul, 1) := by decide +kernel
theorem dL_boards_104 : decode cL_boards 104 = .ok (.iconst 1, 1) := by decide +kernel
theorem dL_boards_105 : decode cL_boards 105 = .ok (.iastore, 1) := by decide +kernel
theorem dL_boards_106 : decode cL_boards 106 = .ok (.aload 5, 2) := by decide +kernel
theorem dL_boards_108 : decode cL_boards 108 = .ok (.iconst 3, 1) := by decide +kernel
theorem dL_boards_109 : decode cL_boards 109 = .ok (.iload 8, 2) := by decide +kernel
theorem dL_boards_111 : decode cL_boards 111 = .ok (.imul, 1) := by decide +kernel
theorem dL_boards_112 : decode cL_boards 112 = .ok (.iconst 2, 1) := by decide +kernel
theorem dL_boards_113 : decode cL_boards 113 = .ok (.iadd, 1) := by decide +kernel
theorem dL_boards_114 : decode cL_boards 114 = .ok (.iconst 0, 1) := by decide +kernel
theorem dL_boards_115 : decode cL_boards 115 = .ok (.iastore, 1) := by decide +kernel
theorem dL_boards_116 : decode cL_boards 116 = .ok (.aload 4, 2) := by decide +kernel
theorem dL_boards_118 : decode cL_boards 118 = .ok (.iconst 3, 1) := by decide +kernel
theorem dL_boards_119 : decode cL_boards 119 = .ok (.iconst 0, 1) := by decide +kernel
theorem dL_boards_120 : decode cL_boards 120 = .ok (.iastore, 1) := by decide +kernel
theorem dL_boards_121 : decode cL_boards 121 = .ok (.aload 4, 2) := by decide +kernel
theorem dL_boards_123 : decode cL_boards 123 = .ok (.bipush 7, 2) := by decide +kernel
theorem dL_boards_125 : decode cL_boards 125 = .ok (.dup2, 1) := by decide +kernel
theorem dL_boards_126 : decode cL_boards 126 = .ok (.iaload, 1) := by decide +kernel
theorem dL_boards_127 : decode cL_boards 127 = .ok (.iconst 1, 1) := by decide +kernel
theorem dL_boards_128 : decode cL_boards 128 = .ok (.iadd, 1) := by decide +kernel
theorem dL_boards_129 : decode cL_boards 129 = .ok (.iastore, 1) := by decide +kernel
theorem dL_boards_130 : decode cL_boards 130 = .ok (.aload_n 0, 1) := by decide +kernel
theorem dL_boards_131 : decode cL_boards 131 = .ok (.iload 8, 2) := by decide +kernel
theorem dL_boards_133 : decode cL_boards 133 = .ok (.invokevirtual 101, 3) := by decide +kernel
theorem dL_boards_136 : decode cL_boards 136 = .ok (.aload 6, 2) := by decide +kernel
theorem dL_boards_138 : decode cL_boards 138 = .ok (.iconst 0, 1) := by decide +kernel
theorem dL_boards_139 : decode cL_boards 139 = .ok (.invokestatic 39, 3) := by decide +kernel
theorem dL_boards_142 : decode cL_boards 142 = .ok (.if_icmp .ne 7, 3) := by decide +kernel
theorem dL_boards_145 : decode cL_boards 145 = .ok (.iconst 1, 1) := by decide +kernel
theorem dL_boards_146 : decode cL_boards 146 = .ok (.goto 4, 3) := by decide +kernel
theorem dL_boards_149 : decode cL_boards 149 = .ok (.iconst 0, 1) := by decide +kernel
theorem dL_boards_150 : decode cL_boards 150 = .ok (.ireturn, 1) := by decide +kernel
theorem dL_boards_151 : decode cL_boards 151 = .ok (.iload 7, 2) := by decide +kernel
theorem dL_boards_153 : decode cL_boards 153 = .ok (.iconst 5, 1) := by decide +kernel
theorem dL_boards_154 : decode cL_boards 154 = .ok (.if_icmp .ge 98, 3) := by decide +kernel
theorem dL_boards_157 : decode cL_boards 157 = .ok (.aload 5, 2) := by decide +kernel
theorem dL_boards_159 : decode cL_boards 159 = .ok (.iconst 3, 1) := by decide +kernel
theorem dL_boards_160 : decode cL_boards 160 = .ok (.iload 8, 2) := by decide +kernel
theorem dL_boards_162 : decode cL_boards 162 = .ok (.imul, 1) := by decide +kernel
theorem dL_boards_163 : decode cL_boards 163 = .ok (.iaload, 1) := by decide +kernel
theorem dL_boards_164 : decode cL_boards 164 = .ok (.ifCond .eq 16, 3) := by decide +kernel
theorem dL_boards_167 : decode cL_boards 167 = .ok (.aload 5, 2) := by decide +kernel
theorem dL_boards_169 : decode cL_boards 169 = .ok (.iconst 3, 1) := by decide +kernel
theorem dL_boards_170 : decode cL_boards 170 = .ok (.iload 8, 2) := by decide +kernel
theorem dL_boards_172 : decode cL_boards 172 = .ok (.imul, 1) := by decide +kernel
theorem dL_boards_173 : decode cL_boards 173 = .ok (.iconst 1, 1) := by decide +kernel
theorem dL_boards_174 : decode cL_boards 174 = .ok (.iadd, 1) := by decide +kernel
theorem dL_boards_175 : decode cL_boards 175 = .ok (.iaload, 1) := by decide +kernel
theorem dL_boards_176 : decode cL_boards 176 = .ok (.iconst 1, 1) := by decide +kernel
theorem dL_boards_177 : decode cL_boards 177 = .ok (.if_icmp .ne 29, 3) := by decide +kernel
theorem dL_boards_180 : decode cL_boards 180 = .ok (.aload_n 0, 1) := by decide +kernel
theorem dL_boards_181 : decode cL_boards 181 = .ok (.iload 8, 2) := by decide +kernel
theorem dL_boards_183 : decode cL_boards 183 = .ok (.invokevirtual 104, 3) := by decide +kernel
theorem dL_boards_186 : decode cL_boards 186 = .ok (.iload 9, 2) := by decide +kernel
theorem dL_boards_188 : decode cL_boards 188 = .ok (.if_icmp .ne 16, 3) := by decide +kernel
theorem dL_boards_191 : decode cL_boards 191 = .ok (.aload_n 0, 1) := by decide +kernel
theorem dL_boards_192 : decode cL_boards 192 = .ok (.iconst (-1), 1) := by decide +kernel
theorem dL_boards_193 : decode cL_boards 193 = .ok (.invokevirtual 104, 3) := by decide +kernel
theorem dL_boards_196 : decode cL_boards 196 = .ok (.iconst (-1), 1) := by decide +kernel
theorem dL_boards_197 : decode cL_boards 197 = .ok (.if_icmp .ne 7, 3) := by decide +kernel
theorem dL_boards_200 : decode cL_boards 200 = .ok (.iconst 1, 1) := by decide +kernel
theorem dL_boards_201 : decode cL_boards 201 = .ok (.goto 4, 3) := by decide +kernel
theorem dL_boards_204 : decode cL_boards 204 = .ok (.iconst 0, 1) := by decide +kernel
theorem dL_boards_205 : decode cL_boards 205 = .ok (.ireturn, 1) := by decide +kernel
theorem dL_boards_206 : decode cL_boards 206 = .ok (.aload 5, 2) := by decide +kernel
theorem dL_boards_208 : decode cL_boards 208 = .ok (.iconst 3, 1) := by decide +kernel
theorem dL_boards_209 : decode cL_boards 209 = .ok (.iload 8, 2) := by decide +kernel
theorem dL_boards_211 : decode cL_boards 211 = .ok (.imul, 1) := by decide +kernel
theorem dL_boards_212 : decode cL_boards 212 = .ok (.iconst 1, 1) := by decide +kernel
theorem dL_boards_213 : decode cL_boards 213 = .ok (.iadd, 1) := by decide +kernel
theorem dL_boards_214 : decode cL_boards 214 = .ok (.iconst 1, 1) := by decide +kernel
theorem dL_boards_215 : decode cL_boards 215 = .ok (.iastore, 1) := by decide +kernel
theorem dL_boards_216 : decode cL_boards 216 = .ok (.aload_n 0, 1) := by decide +kernel
theorem dL_boards_217 : decode cL_boards 217 = .ok (.iload 8, 2) := by decide +kernel
theorem dL_boards_219 : decode cL_boards 219 = .ok (.invokevirtual 104, 3) := by decide +kernel
theorem dL_boards_222 : decode cL_boards 222 = .ok (.aload 5, 2) := by decide +kernel
theorem dL_boards_224 : decode cL_boards 224 = .ok (.iconst 1, 1) := by decide +kernel
theorem dL_boards_225 : decode cL_boards 225 = .ok (.iaload, 1) := by decide +kernel
theorem dL_boards_226 : decode cL_boards 226 = .ok (.aload 5, 2) := by decide +kernel
theorem dL_boards_228 : decode cL_boards 228 = .ok (.iconst 4, 1) := by decide +kernel
theorem dL_boards_229 : decode cL_boards 229 = .ok (.iaload, 1) := by decide +kernel
theorem dL_boards_230 : decode cL_boards 230 = .ok (.iadd, 1) := by decide +kernel
theorem dL_boards_231 : decode cL_boards 231 = .ok (.aload 5, 2) := by decide +kernel
theorem dL_boards_233 : decode cL_boards 233 = .ok (.bipush 7, 2) := by decide +kernel
theorem dL_boards_235 : decode cL_boards 235 = .ok (.iaload, 1) := by decide +kernel
theorem dL_boards_236 : decode cL_boards 236 = .ok (.iadd, 1) := by decide +kernel
theorem dL_boards_237 : decode cL_boards 237 = .ok (.aload 5, 2) := by decide +kernel
theorem dL_boards_239 : decode cL_boards 239 = .ok (.bipush 10, 2) := by decide +kernel
theorem dL_boards_241 : decode cL_boards 241 = .ok (.iaload, 1) := by decide +kernel
theorem dL_boards_242 : decode cL_boards 242 = .ok (.iadd, 1) := by decide +kernel
theorem dL_boards_243 : decode cL_boards 243 = .ok (.if_icmp .ne 7, 3) := by decide +kernel
theorem dL_boards_246 : decode cL_boards 246 = .ok (.iconst 1, 1) := by decide +kernel
theorem dL_boards_247 : decode cL_boards 247 = .ok (.goto 4, 3) := by decide +kernel
theorem dL_boards_250 : decode cL_boards 250 = .ok (.iconst 0, 1) := by decide +kernel
theorem dL_boards_251 : decode cL_boards 251 = .ok (.ireturn, 1) := by decide +kernel
theorem dL_boards_252 : decode cL_boards 252 = .ok (.aload 5, 2) := by decide +kernel
theorem dL_boards_254 : decode cL_boards 254 = .ok (.iconst 3, 1) := by decide +kernel
theorem dL_boards_255 : decode cL_boards 255 = .ok (.iload 8, 2) := by decide +kernel
theorem dL_boards_257 : decode cL_boards 257 = .ok (.imul, 1) := by decide +kernel
theorem dL_boards_258 : decode cL_boards 258 = .ok (.iconst 1, 1) := by decide +kernel
theorem dL_boards_259 : decode cL_boards 259 = .ok (.iadd, 1) := by decide +kernel
theorem dL_boards_260 : decode cL_boards 260 = .ok (.iaload, 1) := by decide +kernel
theorem dL_boards_261 : decode cL_boards 261 = .ok (.ifCond .ne 29, 3) := by decide +kernel
theorem dL_boards_264 : decode cL_boards 264 = .ok (.aload_n 0, 1) := by decide +kernel
theorem dL_boards_265 : decode cL_boards 265 = .ok (.iload 8, 2) := by decide +kernel
theorem dL_boards_267 : decode cL_boards 267 = .ok (.invokevirtual 107, 3) := by decide +kernel
theorem dL_boards_270 : decode cL_boards 270 = .ok (.iload 9, 2) := by decide +kernel
theorem dL_boards_272 : decode cL_boards 272 = .ok (.if_icmp .ne 16, 3) := by decide +kernel
theorem dL_boards_275 : decode cL_boards 275 = .ok (.aload_n 0, 1) := by decide +kernel
theorem dL_boards_276 : decode cL_boards 276 = .ok (.iconst 4, 1) := by decide +kernel
theorem dL_boards_277 : decode cL_boards 277 = .ok (.invokevirtual 107, 3) := by decide +kernel
theorem dL_boards_280 : decode cL_boards 280 = .ok (.iconst (-1), 1) := by decide +kernel
theorem dL_boards_281 : decode cL_boards 281 = .ok (.if_icmp .ne 7, 3) := by decide +kernel
theorem dL_boards_284 : decode cL_boards 284 = .ok (.iconst 1, 1) := by decide +kernel
theorem dL_boards_285 : decode cL_boards 285 = .ok (.goto 4, 3) := by decide +kernel
theorem dL_boards_288 : decode cL_boards 288 = .ok (.iconst 0, 1) := by decide +kernel
theorem dL_boards_289 : decode cL_boards 289 = .ok (.ireturn, 1) := by decide +kernel
theorem dL_boards_290 : decode cL_boards 290 = .ok (.aload 5, 2) := by decide +kernel
theorem dL_boards_292 : decode cL_boards 292 = .ok (.iconst 3, 1) := by decide +kernel
theorem dL_boards_293 : decode cL_boards 293 = .ok (.iload 8, 2) := by decide +kernel
theorem dL_boards_295 : decode cL_boards 295 = .ok (.imul, 1) := by decide +kernel
theorem dL_boards_296 : decode cL_boards 296 = .ok (.iconst 1, 1) := by decide +kernel
theorem dL_boards_297 : decode cL_boards 297 = .ok (.iadd, 1) := by decide +kernel
theorem dL_boards_298 : decode cL_boards 298 = .ok (.iconst 0, 1) := by decide +kernel
theorem dL_boards_299 : decode cL_boards 299 = .ok (.iastore, 1) := by decide +kernel
theorem dL_boards_300 : decode cL_boards 300 = .ok (.aload 5, 2) := by decide +kernel
theorem dL_boards_302 : decode cL_boards 302 = .ok (.iconst 3, 1) := by decide +kernel
theorem dL_boards_303 : decode cL_boards 303 = .ok (.iload 8, 2) := by decide +kernel
theorem dL_boards_305 : decode cL_boards 305 = .ok (.imul, 1) := by decide +kernel
theorem dL_boards_306 : decode cL_boards 306 = .ok (.iconst 2, 1) := by decide +kernel
theorem dL_boards_307 : decode cL_boards 307 = .ok (.iadd, 1) := by decide +kernel
theorem dL_boards_308 : decode cL_boards 308 = .ok (.dup2, 1) := by decide +kernel
theorem dL_boards_309 : decode cL_boards 309 = .ok (.iaload, 1) := by decide +kernel
theorem dL_boards_310 : decode cL_boards 310 = .ok (.iconst 1, 1) := by decide +kernel
theorem dL_boards_311 : decode cL_boards 311 = .ok (.iadd, 1) := by decide +kernel
theorem dL_boards_312 : decode cL_boards 312 = .ok (.iastore, 1) := by decide +kernel
theorem dL_boards_313 : decode cL_boards 313 = .ok (.aload 4, 2) := by decide +kernel
theorem dL_boards_315 : decode cL_boards 315 = .ok (.bipush 8, 2) := by decide +kernel
theorem dL_boards_317 : decode cL_boards 317 = .ok (.dup2, 1) := by decide +kernel
theorem dL_boards_318 : decode cL_boards 318 = .ok (.iaload, 1) := by decide +kernel
theorem dL_boards_319 : decode cL_boards 319 = .ok (.iconst 1, 1) := by decide +kernel
theorem dL_boards_320 : decode cL_boards 320 = .ok (.iadd, 1) := by decide +kernel
theorem dL_boards_321 : decode cL_boards 321 = .ok (.iastore, 1) := by decide +kernel
theorem dL_boards_322 : decode cL_boards 322 = .ok (.aload_n 0, 1) := by decide +kernel
theorem dL_boards_323 : decode cL_boards 323 = .ok (.iload 8, 2) := by decide +kernel
theorem dL_boards_325 : decode cL_boards 325 = .ok (.invokevirtual 107, 3) := by decide +kernel
theorem dL_boards_328 : decode cL_boards 328 = .ok (.aload 5, 2) := by decide +kernel
theorem dL_boards_330 : decode cL_boards 330 = .ok (.iconst 3, 1) := by decide +kernel
theorem dL_boards_331 : decode cL_boards 331 = .ok (.iload 8, 2) := by decide +kernel
theorem dL_boards_333 : decode cL_boards 333 = .ok (.imul, 1) := by decide +kernel
theorem dL_boards_334 : decode cL_boards 334 = .ok (.iconst 2, 1) := by decide +kernel
theorem dL_boards_335 : decode cL_boards 335 = .ok (.iadd, 1) := by decide +kernel
theorem dL_boards_336 : decode cL_boards 336 = .ok (.iaload, 1) := by decide +kernel
theorem dL_boards_337 : decode cL_boards 337 = .ok (.if_icmp .ne 7, 3) := by decide +kernel
theorem dL_boards_340 : decode cL_boards 340 = .ok (.iconst 1, 1) := by decide +kernel
theorem dL_boards_341 : decode cL_boards 341 = .ok (.goto 4, 3) := by decide +kernel
theorem dL_boards_344 : decode cL_boards 344 = .ok (.iconst 0, 1) := by decide +kernel
theorem dL_boards_345 : decode cL_boards 345 = .ok (.ireturn, 1) := by decide +kernel
theorem dL_law_0 : decode cL_law 0 = .ok (.new 34, 3) := by decide +kernel
theorem dL_law_3 : decode cL_law 3 = .ok (.dup, 1) := by decide +kernel
theorem dL_law_4 : decode cL_law 4 = .ok (.invokespecial 110, 3) := by decide +kernel
theorem dL_law_7 : decode cL_law 7 = .ok (.astore_n 1, 1) := by decide +kernel
theorem dL_law_8 : decode cL_law 8 = .ok (.bipush 52, 2) := by decide +kernel
theorem dL_law_10 : decode cL_law 10 = .ok (.newarray .int, 2) := by decide +kernel
theorem dL_law_12 : decode cL_law 12 = .ok (.astore_n 2, 1) := by decide +kernel
theorem dL_law_13 : decode cL_law 13 = .ok (.bipush 52, 2) := by decide +kernel
theorem dL_law_15 : decode cL_law 15 = .ok (.newarray .int, 2) := by decide +kernel
theorem dL_law_17 : decode cL_law 17 = .ok (.astore_n 3, 1) := by decide +kernel
theorem dL_law_18 : decode cL_law 18 = .ok (.bipush 9, 2) := by decide +kernel
theorem dL_law_20 : decode cL_law 20 = .ok (.newarray .int, 2) := by decide +kernel
theorem dL_law_22 : decode cL_law 22 = .ok (.astore 4, 2) := by decide +kernel
theorem dL_law_24 : decode cL_law 24 = .ok (.bipush 12, 2) := by decide +kernel
theorem dL_law_26 : decode cL_law 26 = .ok (.newarray .int, 2) := by decide +kernel
theorem dL_law_28 : decode cL_law 28 = .ok (.astore 5, 2) := by decide +kernel
theorem dL_law_30 : decode cL_law 30 = .ok (.bipush 52, 2) := by decide +kernel
theorem dL_law_32 : decode cL_law 32 = .ok (.newarray .int, 2) := by decide +kernel
theorem dL_law_34 : decode cL_law 34 = .ok (.astore 6, 2) := by decide +kernel
theorem dL_law_36 : decode cL_law 36 = .ok (.bipush 52, 2) := by decide +kernel
theorem dL_law_38 : decode cL_law 38 = .ok (.newarray .int, 2) := by decide +kernel
theorem dL_law_40 : decode cL_law 40 = .ok (.astore 7, 2) := by decide +kernel
theorem dL_law_42 : decode cL_law 42 = .ok (.bipush 52, 2) := by decide +kernel
theorem dL_law_44 : decode cL_law 44 = .ok (.newarray .int, 2) := by decide +kernel
theorem dL_law_46 : decode cL_law 46 = .ok (.astore 8, 2) := by decide +kernel
theorem dL_law_48 : decode cL_law 48 = .ok (.bipush 52, 2) := by decide +kernel
theorem dL_law_50 : decode cL_law 50 = .ok (.newarray .int, 2) := by decide +kernel
theorem dL_law_52 : decode cL_law 52 = .ok (.astore 9, 2) := by decide +kernel
theorem dL_law_54 : decode cL_law 54 = .ok (.iconst 0, 1) := by decide +kernel
theorem dL_law_55 : decode cL_law 55 = .ok (.istore 10, 2) := by decide +kernel
theorem dL_law_57 : decode cL_law 57 = .ok (.iload 10, 2) := by decide +kernel
theorem dL_law_59 : decode cL_law 59 = .ok (.bipush 52, 2) := by decide +kernel
theorem dL_law_61 : decode cL_law 61 = .ok (.if_icmp .ge 15, 3) := by decide +kernel
theorem dL_law_64 : decode cL_law 64 = .ok (.aload_n 2, 1) := by decide +kernel
theorem dL_law_65 : decode cL_law 65 = .ok (.iload 10, 2) := by decide +kernel
theorem dL_law_67 : decode cL_law 67 = .ok (.iload 10, 2) := by decide +kernel
theorem dL_law_69 : decode cL_law 69 = .ok (.iastore, 1) := by decide +kernel
theorem dL_law_70 : decode cL_law 70 = .ok (.iinc 10 1, 3) := by decide +kernel
theorem dL_law_73 : decode cL_law 73 = .ok (.goto (-16), 3) := by decide +kernel
theorem dL_law_76 : decode cL_law 76 = .ok (.aload 4, 2) := by decide +kernel
theorem dL_law_78 : decode cL_law 78 = .ok (.iconst 0, 1) := by decide +kernel
theorem dL_law_79 : decode cL_law 79 = .ok (.bipush 8, 2) := by decide +kernel
theorem dL_law_81 : decode cL_law 81 = .ok (.iastore, 1) := by decide +kernel
theorem dL_law_82 : decode cL_law 82 = .ok (.aload 4, 2) := by decide +kernel
theorem dL_law_84 : decode cL_law 84 = .ok (.iconst 1, 1) := by decide +kernel
theorem dL_law_85 : decode cL_law 85 = .ok (.iconst 3, 1) := by decide +kernel
theorem dL_law_86 : decode cL_law 86 = .ok (.iastore, 1) := by decide +kernel
theorem dL_law_87 : decode cL_law 87 = .ok (.aload 4, 2) := by decide +kernel
theorem dL_law_89 : decode cL_law 89 = .ok (.iconst 2, 1) := by decide +kernel
theorem dL_law_90 : decode cL_law 90 = .ok (.iconst 1, 1) := by decide +kernel
theorem dL_law_91 : decode cL_law 91 = .ok (.iastore, 1) := by decide +kernel
theorem dL_law_92 : decode cL_law 92 = .ok (.aload 4, 2) := by decide +kernel
theorem dL_law_94 : decode cL_law 94 = .ok (.iconst 4, 1) := by decide +kernel
theorem dL_law_95 : decode cL_law 95 = .ok (.bipush (-6), 2) := by decide +kernel
theorem dL_law_97 : decode cL_law 97 = .ok (.iastore, 1) := by decide +kernel
theorem dL_law_98 : decode cL_law 98 = .ok (.aload_n 1, 1) := by decide +kernel
theorem dL_law_99 : decode cL_law 99 = .ok (.aload_n 2, 1) := by decide +kernel
theorem dL_law_100 : decode cL_law 100 = .ok (.aload_n 3, 1) := by decide +kernel
theorem dL_law_101 : decode cL_law 101 = .ok (.aload 4, 2) := by decide +kernel
theorem dL_law_103 : decode cL_law 103 = .ok (.aload 5, 2) := by decide +kernel
theorem dL_law_105 : decode cL_law 105 = .ok (.invokestatic 111, 3) := by decide +kernel
theorem dL_law_108 : decode cL_law 108 = .ok (.ifCond .eq 46, 3) := by decide +kernel
theorem dL_law_111 : decode cL_law 111 = .ok (.aload_n 1, 1) := by decide +kernel
theorem dL_law_112 : decode cL_law 112 = .ok (.iconst 2, 1) := by decide +kernel
theorem dL_law_113 : decode cL_law 113 = .ok (.aload 5, 2) := by decide +kernel
theorem dL_law_115 : decode cL_law 115 = .ok (.aload 8, 2) := by decide +kernel
theorem dL_law_117 : decode cL_law 117 = .ok (.invokestatic 115, 3) := by decide +kernel
theorem dL_law_120 : decode cL_law 120 = .ok (.ifCond .eq 34, 3) := by decide +kernel
theorem dL_law_123 : decode cL_law 123 = .ok (.aload_n 1, 1) := by decide +kernel
theorem dL_law_124 : decode cL_law 124 = .ok (.iconst 2, 1) := by decide +kernel
theorem dL_law_125 : decode cL_law 125 = .ok (.aload_n 2, 1) := by decide +kernel
theorem dL_law_126 : decode cL_law 126 = .ok (.aload_n 3, 1) := by decide +kernel
theorem dL_law_127 : decode cL_law 127 = .ok (.aload 4, 2) := by decide +kernel
theorem dL_law_129 : decode cL_law 129 = .ok (.invokestatic 119, 3) := by decide +kernel
theorem dL_law_132 : decode cL_law 132 = .ok (.ifCond .eq 22, 3) := by decide +kernel
theorem dL_law_135 : decode cL_law 135 = .ok (.aload_n 1, 1) := by decide +kernel
theorem dL_law_136 : decode cL_law 136 = .ok (.invokevirtual 123, 3) := by decide +kernel
theorem dL_law_139 : decode cL_law 139 = .ok (.bipush (-5), 2) := by decide +kernel
theorem dL_law_141 : decode cL_law 141 = .ok (.if_icmp .ne 13, 3) := by decide +kernel
theorem dL_law_144 : decode cL_law 144 = .ok (.aload_n 1, 1) := by decide +kernel
theorem dL_law_145 : decode cL_law 145 = .ok (.iconst 0, 1) := by decide +kernel
theorem dL_law_146 : decode cL_law 146 = .ok (.invokevirtual 126, 3) := by decide +kernel
theorem dL_law_149 : decode cL_law 149 = .ok (.bipush (-5), 2) := by decide +kernel
theorem dL_law_151 : decode cL_law 151 = .ok (.if_icmp .eq 5, 3) := by decide +kernel
theorem dL_law_154 : decode cL_law 154 = .ok (.iconst 0, 1) := by decide +kernel
theorem dL_law_155 : decode cL_law 155 = .ok (.ireturn, 1) := by decide +kernel
theorem dL_law_156 : decode cL_law 156 = .ok (.iconst 0, 1) := by decide +kernel
theorem dL_law_157 : decode cL_law 157 = .ok (.istore 10, 2) := by decide +kernel
theorem dL_law_159 : decode cL_law 159 = .ok (.iload 10, 2) := by decide +kernel
theorem dL_law_161 : decode cL_law 161 = .ok (.bipush 50, 2) := by decide +kernel
theorem dL_law_163 : decode cL_law 163 = .ok (.if_icmp .ge 176, 3) := by decide +kernel
theorem dL_law_166 : decode cL_law 166 = .ok (.aload_n 0, 1) := by decide +kernel
theorem dL_law_167 : decode cL_law 167 = .ok (.iconst 2, 1) := by decide +kernel
theorem dL_law_168 : decode cL_law 168 = .ok (.iload 10, 2) := by decide +kernel
theorem dL_law_170 : decode cL_law 170 = .ok (.imul, 1) := by decide +kernel
theorem dL_law_171 : decode cL_law 171 = .ok (.invokestatic 129, 3) := by decide +kernel
theorem dL_law_174 : decode cL_law 174 = .ok (.istore 11, 2) := by decide +kernel
theorem dL_law_176 : decode cL_law 176 = .ok (.aload_n 0, 1) := by decide +kernel
theorem dL_law_177 : decode cL_law 177 = .ok (.iconst 2, 1) := by decide +kernel
theorem dL_law_178 : decode cL_law 178 = .ok (.iload 10, 2) := by decide +kernel
theorem dL_law_180 : decode cL_law 180 = .ok (.imul, 1) := by decide +kernel
theorem dL_law_181 : decode cL_law 181 = .ok (.iconst 1, 1) := by decide +kernel
theorem dL_law_182 : decode cL_law 182 = .ok (.iadd, 1) := by decide +kernel
theorem dL_law_183 : decode cL_law 183 = .ok (.invokestatic 129, 3) := by decide +kernel
theorem dL_law_186 : decode cL_law 186 = .ok (.istore 12, 2) := by decide +kernel
theorem dL_law_188 : decode cL_law 188 = .ok (.iload 12, 2) := by decide +kernel
theorem dL_law_190 : decode cL_law 190 = .ok (.iconst 4, 1) := by decide +kernel
theorem dL_law_191 : decode cL_law 191 = .ok (.invokestatic 66, 3) := by decide +kernel
theorem dL_law_194 : decode cL_law 194 = .ok (.istore 13, 2) := by decide +kernel
theorem dL_law_196 : decode cL_law 196 = .ok (.iload 13, 2) := by decide +kernel
theorem dL_law_198 : decode cL_law 198 = .ok (.ifCond .ne 8, 3) := by decide +kernel
theorem dL_law_201 : decode cL_law 201 = .ok (.aload 6, 2) := by decide +kernel
theorem dL_law_203 : decode cL_law 203 = .ok (.goto 27, 3) := by decide +kernel
theorem dL_law_206 : decode cL_law 206 = .ok (.iload 13, 2) := by decide +kernel
theorem dL_law_208 : decode cL_law 208 = .ok (.iconst 1, 1) := by decide +kernel
theorem dL_law_209 : decode cL_law 209 = .ok (.if_icmp .ne 8, 3) := by decide +kernel
theorem dL_law_212 : decode cL_law 212 = .ok (.aload 7, 2) := by decide +kernel
theorem dL_law_214 : decode cL_law 214 = .ok (.goto 16, 3) := by decide +kernel
theorem dL_law_217 : decode cL_law 217 = .ok (.iload 13, 2) := by decide +kernel
theorem dL_law_219 : decode cL_law 219 = .ok (.iconst 2, 1) := by decide +kernel
theorem dL_law_220 : decode cL_law 220 = .ok (.if_icmp .ne 8, 3) := by decide +kernel
theorem dL_law_223 : decode cL_law 223 = .ok (.aload 8, 2) := by decide +kernel
theorem dL_law_225 : decode cL_law 225 = .ok (.goto 5, 3) := by decide +kernel
theorem dL_law_228 : decode cL_law 228 = .ok (.aload 9, 2) := by decide +kernel
theorem dL_law_230 : decode cL_law 230 = .ok (.astore 14, 2) := by decide +kernel
theorem dL_law_232 : decode cL_law 232 = .ok (.iload 11, 2) := by decide +kernel
theorem dL_law_234 : decode cL_law 234 = .ok (.bipush 8, 2) := by decide +kernel
theorem dL_law_236 : decode cL_law 236 = .ok (.ishr, 1) := by decide +kernel
theorem dL_law_237 : decode cL_law 237 = .ok (.iconst 1, 1) := by decide +kernel
theorem dL_law_238 : decode cL_law 238 = .ok (.iand, 1) := by decide +kernel
theorem dL_law_239 : decode cL_law 239 = .ok (.ifCond .ne 18, 3) := by decide +kernel
theorem dL_law_242 : decode cL_law 242 = .ok (.aload_n 1, 1) := by decide +kernel
theorem dL_law_243 : decode cL_law 243 = .ok (.iload 11, 2) := by decide +kernel
theorem dL_law_245 : decode cL_law 245 = .ok (.iload 12, 2) := by decide +kernel
theorem dL_law_247 : decode cL_law 247 = .ok (.aload_n 2, 1) := by decide +kernel
theorem dL_law_248 : decode cL_law 248 = .ok (.aload_n 3, 1) := by decide +kernel
theorem dL_law_249 : decode cL_law 249 = .ok (.aload 4, 2) := by decide +kernel
theorem dL_law_251 : decode cL_law 251 = .ok (.invokestatic 132, 3) := by decide +kernel
theorem dL_law_254 : decode cL_law 254 = .ok (.goto 18, 3) := by decide +kernel
theorem dL_law_257 : decode cL_law 257 = .ok (.aload_n 1, 1) := by decide +kernel
theorem dL_law_258 : decode cL_law 258 = .ok (.iload 11, 2) := by decide +kernel
theorem dL_law_260 : decode cL_law 260 = .ok (.iload 12, 2) := by decide +kernel
theorem dL_law_262 : decode cL_law 262 = .ok (.aload_n 2, 1) := by decide +kernel
theorem dL_law_263 : decode cL_law 263 = .ok (.aload 4, 2) := by decide +kernel
theorem dL_law_265 : decode cL_law 265 = .ok (.aload 5, 2) := by decide +kernel
theorem dL_law_267 : decode cL_law 267 = .ok (.aload 14, 2) := by decide +kernel
theorem dL_law_269 : decode cL_law 269 = .ok (.invokestatic 136, 3) := by decide +kernel
theorem dL_law_272 : decode cL_law 272 = .ok (.istore 15, 2) := by decide +kernel
theorem dL_law_274 : decode cL_law 274 = .ok (.iload 15, 2) := by decide +kernel
theorem dL_law_276 : decode cL_law 276 = .ok (.ifCond .eq 55, 3) := by decide +kernel
theorem dL_law_279 : decode cL_law 279 = .ok (.aload_n 1, 1) := by decide +kernel
theorem dL_law_280 : decode cL_law 280 = .ok (.aload_n 2, 1) := by decide +kernel
theorem dL_law_281 : decode cL_law 281 = .ok (.aload_n 3, 1) := by decide +kernel
theorem dL_law_282 : decode cL_law 282 = .ok (.aload 4, 2) := by decide +kernel
theorem dL_law_284 : decode cL_law 284 = .ok (.aload 5, 2) := by decide +kernel
theorem dL_law_286 : decode cL_law 286 = .ok (.invokestatic 111, 3) := by decide +kernel
theorem dL_law_289 : decode cL_law 289 = .ok (.ifCond .eq 42, 3) := by decide +kernel
theorem dL_law_292 : decode cL_law 292 = .ok (.aload_n 1, 1) := by decide +kernel
theorem dL_law_293 : decode cL_law 293 = .ok (.iload 13, 2) := by decide +kernel
theorem dL_law_295 : decode cL_law 295 = .ok (.aload 5, 2) := by decide +kernel
theorem dL_law_297 : decode cL_law 297 = .ok (.aload 14, 2) := by decide +kernel
theorem dL_law_299 : decode cL_law 299 = .ok (.invokestatic 115, 3) := by decide +kernel
theorem dL_law_302 : decode cL_law 302 = .ok (.ifCond .eq 29, 3) := by decide +kernel
theorem dL_law_305 : decode cL_law 305 = .ok (.iload 10, 2) := by decide +kernel
theorem dL_law_307 : decode cL_law 307 = .ok (.bipush 9, 2) := by decide +kernel
theorem dL_law_309 : decode cL_law 309 = .ok (.irem, 1) := by decide +kernel
theorem dL_law_310 : decode cL_law 310 = .ok (.bipush 8, 2) := by decide +kernel
theorem dL_law_312 : decode cL_law 312 = .ok (.if_icmp .ne 21, 3) := by decide +kernel
theorem dL_law_315 : decode cL_law 315 = .ok (.aload_n 1, 1) := by decide +kernel
theorem dL_law_316 : decode cL_law 316 = .ok (.iload 11, 2) := by decide +kernel
theorem dL_law_318 : decode cL_law 318 = .ok (.bipush 9, 2) := by decide +kernel
theorem dL_law_320 : decode cL_law 320 = .ok (.ishr, 1) := by decide +kernel
theorem dL_law_321 : decode cL_law 321 = .ok (.aload_n 2, 1) := by decide +kernel
theorem dL_law_322 : decode cL_law 322 = .ok (.aload_n 3, 1) := by decide +kernel
theorem dL_law_323 : decode cL_law 323 = .ok (.aload 4, 2) := by decide +kernel
theorem dL_law_325 : decode cL_law 325 = .ok (.invokestatic 119, 3) := by decide +kernel
theorem dL_law_328 : decode cL_law 328 = .ok (.ifCond .ne 5, 3) := by decide +kernel
theorem dL_law_331 : decode cL_law 331 = .ok (.iconst 0, 1) := by decide +kernel
theorem dL_law_332 : decode cL_law 332 = .ok (.ireturn, 1) := by decide +kernel
theorem dL_law_333 : decode cL_law 333 = .ok (.iinc 10 1, 3) := by decide +kernel
theorem dL_law_336 : decode cL_law 336 = .ok (.goto (-177), 3) := by decide +kernel
theorem dL_law_339 : decode cL_law 339 = .ok (.aload 5, 2) := by decide +kernel
theorem dL_law_341 : decode cL_law 341 = .ok (.iconst 0, 1) := by decide +kernel
theorem dL_law_342 : decode cL_law 342 = .ok (.iaload, 1) := by decide +kernel
theorem dL_law_343 : decode cL_law 343 = .ok (.iconst 1, 1) := by decide +kernel
theorem dL_law_344 : decode cL_law 344 = .ok (.if_icmp .ne 15, 3) := by decide +kernel
theorem dL_law_347 : decode cL_law 347 = .ok (.aload 5, 2) := by decide +kernel
theorem dL_law_349 : decode cL_law 349 = .ok (.iconst 3, 1) := by decide +kernel
theorem dL_law_350 : decode cL_law 350 = .ok (.iaload, 1) := by decide +kernel
theorem dL_law_351 : decode cL_law 351 = .ok (.iconst 1, 1) := by decide +kernel
theorem dL_law_352 : decode cL_law 352 = .ok (.if_icmp .ne 7, 3) := by decide +kernel
theorem dL_law_355 : decode cL_law 355 = .ok (.iconst 1, 1) := by decide +kernel
theorem dL_law_356 : decode cL_law 356 = .ok (.goto 4, 3) := by decide +kernel
theorem dL_law_359 : decode cL_law 359 = .ok (.iconst 0, 1) := by decide +kernel
theorem dL_law_360 : decode cL_law 360 = .ok (.istore 10, 2) := by decide +kernel
theorem dL_law_362 : decode cL_law 362 = .ok (.iconst 0, 1) := by decide +kernel
theorem dL_law_363 : decode cL_law 363 = .ok (.istore 11, 2) := by decide +kernel
theorem dL_law_365 : decode cL_law 365 = .ok (.iload 11, 2) := by decide +kernel
theorem dL_law_367 : decode cL_law 367 = .ok (.bipush 52, 2) := by decide +kernel
theorem dL_law_369 : decode cL_law 369 = .ok (.if_icmp .ge 34, 3) := by decide +kernel
theorem dL_law_372 : decode cL_law 372 = .ok (.iload 10, 2) := by decide +kernel
theorem dL_law_374 : decode cL_law 374 = .ok (.ifCond .eq 20, 3) := by decide +kernel
theorem dL_law_377 : decode cL_law 377 = .ok (.aload 6, 2) := by decide +kernel
theorem dL_law_379 : decode cL_law 379 = .ok (.iload 11, 2) := by decide +kernel
theorem dL_law_381 : decode cL_law 381 = .ok (.iaload, 1) := by decide +kernel
theorem dL_law_382 : decode cL_law 382 = .ok (.aload 7, 2) := by decide +kernel
theorem dL_law_384 : decode cL_law 384 = .ok (.iload 11, 2) := by decide +kernel
theorem dL_law_386 : decode cL_law 386 = .ok (.iaload, 1) := by decide +kernel
theorem dL_law_387 : decode cL_law 387 = .ok (.if_icmp .ne 7, 3) := by decide +kernel
theorem dL_law_390 : decode cL_law 390 = .ok (.iconst 1, 1) := by decide +kernel
theorem dL_law_391 : decode cL_law 391 = .ok (.goto 4, 3) := by decide +kernel
theorem dL_law_394 : decode cL_law 394 = .ok (.iconst 0, 1) := by decide +kernel
theorem dL_law_395 : decode cL_law 395 = .ok (.istore 10, 2) := by decide +kernel
theorem dL_law_397 : decode cL_law 397 = .ok (.iinc 11 1, 3) := by decide +kernel
theorem dL_law_400 : decode cL_law 400 = .ok (.goto (-35), 3) := by decide +kernel
theorem dL_law_403 : decode cL_law 403 = .ok (.aload_n 1, 1) := by decide +kernel
theorem dL_law_404 : decode cL_law 404 = .ok (.iconst 0, 1) := by decide +kernel
theorem dL_law_405 : decode cL_law 405 = .ok (.aload 5, 2) := by decide +kernel
theorem dL_law_407 : decode cL_law 407 = .ok (.aload 6, 2) := by decide +kernel
theorem dL_law_409 : decode cL_law 409 = .ok (.invokestatic 115, 3) := by decide +kernel
theorem dL_law_412 : decode cL_law 412 = .ok (.ifCond .eq 138, 3) := by decide +kernel
theorem dL_law_415 : decode cL_law 415 = .ok (.aload_n 1, 1) := by decide +kernel
theorem dL_law_416 : decode cL_law 416 = .ok (.iconst 1, 1) := by decide +kernel
theorem dL_law_417 : decode cL_law 417 = .ok (.aload 5, 2) := by decide +kernel
theorem dL_law_419 : decode cL_law 419 = .ok (.aload 7, 2) := by decide +kernel
theorem dL_law_421 : decode cL_law 421 = .ok (.invokestatic 115, 3) := by decide +kernel
theorem dL_law_424 : decode cL_law 424 = .ok (.ifCond .eq 126, 3) := by decide +kernel
theorem dL_law_427 : decode cL_law 427 = .ok (.aload_n 1, 1) := by decide +kernel
theorem dL_law_428 : decode cL_law 428 = .ok (.iconst 2, 1) := by decide +kernel
theorem dL_law_429 : decode cL_law 429 = .ok (.aload 5, 2) := by decide +kernel
theorem dL_law_431 : decode cL_law 431 = .ok (.aload 8, 2) := by decide +kernel
theorem dL_law_433 : decode cL_law 433 = .ok (.invokestatic 115, 3) := by decide +kernel
theorem dL_law_436 : decode cL_law 436 = .ok (.ifCond .eq 114, 3) := by decide +kernel
theorem dL_law_439 : decode cL_law 439 = .ok (.aload_n 1, 1) := by decide +kernel
theorem dL_law_440 : decode cL_law 440 = .ok (.iconst 3, 1) := by decide +kernel
theorem dL_law_441 : decode cL_law 441 = .ok (.aload 5, 2) := by decide +kernel
theorem dL_law_443 : decode cL_law 443 = .ok (.aload 9, 2) := by decide +kernel
theorem dL_law_445 : decode cL_law 445 = .ok (.invokestatic 115, 3) := by decide +kernel
theorem dL_law_448 : decode cL_law 448 = .ok (.ifCond .eq 102, 3) := by decide +kernel
theorem dL_law_451 : decode cL_law 451 = .ok (.aload_n 1, 1) := by decide +kernel
theorem dL_law_452 : decode cL_law 452 = .ok (.iconst 0, 1) := by decide +kernel
theorem dL_law_453 : decode cL_law 453 = .ok (.iconst 1, 1) := by decide +kernel
theorem dL_law_454 : decode cL_law 454 = .ok (.invokevirtual 49, 3) := by decide +kernel
theorem dL_law_457 : decode cL_law 457 = .ok (.aload 5, 2) := by decide +kernel
theorem dL_law_459 : decode cL_law 459 = .ok (.iconst 0, 1) := by decide +kernel
theorem dL_law_460 : decode cL_law 460 = .ok (.iaload, 1) := by decide +kernel
theorem dL_law_461 : decode cL_law 461 = .ok (.ifCond .eq 10, 3) := by decide +kernel
theorem dL_law_464 : decode cL_law 464 = .ok (.aload 5, 2) := by decide +kernel
theorem dL_law_466 : decode cL_law 466 = .ok (.iconst 3, 1) := by decide +kernel
theorem dL_law_467 : decode cL_law 467 = .ok (.iaload, 1) := by decide +kernel
theorem dL_law_468 : decode cL_law 468 = .ok (.ifCond .ne 8, 3) := by decide +kernel
theorem dL_law_471 : decode cL_law 471 = .ok (.bipush (-6), 2) := by decide +kernel
theorem dL_law_473 : decode cL_law 473 = .ok (.goto 13, 3) := by decide +kernel
theorem dL_law_476 : decode cL_law 476 = .ok (.iload 10, 2) := by decide +kernel
theorem dL_law_478 : decode cL_law 478 = .ok (.ifCond .eq 7, 3) := by decide +kernel
theorem dL_law_481 : decode cL_law 481 = .ok (.iconst 1, 1) := by decide +kernel
theorem dL_law_482 : decode cL_law 482 = .ok (.goto 4, 3) := by decide +kernel
theorem dL_law_485 : decode cL_law 485 = .ok (.iconst 0, 1) := by decide +kernel
theorem dL_law_486 : decode cL_law 486 = .ok (.if_icmp .ne 64, 3) := by decide +kernel
theorem dL_law_489 : decode cL_law 489 = .ok (.aload_n 1, 1) := by decide +kernel
theorem dL_law_490 : decode cL_law 490 = .ok (.iconst 0, 1) := by decide +kernel
theorem dL_law_491 : decode cL_law 491 = .ok (.iconst 4, 1) := by decide +kernel
theorem dL_law_492 : decode cL_law 492 = .ok (.invokevirtual 49, 3) := by decide +kernel
theorem dL_law_495 : decode cL_law 495 = .ok (.iconst (-1), 1) := by decide +kernel
theorem dL_law_496 : decode cL_law 496 = .ok (.if_icmp .ne 54, 3) := by decide +kernel
theorem dL_law_499 : decode cL_law 499 = .ok (.aload_n 1, 1) := by decide +kernel
theorem dL_law_500 : decode cL_law 500 = .ok (.bipush 14, 2) := by decide +kernel
theorem dL_law_502 : decode cL_law 502 = .ok (.invokevirtual 63, 3) := by decide +kernel
theorem dL_law_505 : decode cL_law 505 = .ok (.bipush (-2), 2) := by decide +kernel
theorem dL_law_507 : decode cL_law 507 = .ok (.if_icmp .ne 43, 3) := by decide +kernel
theorem dL_law_510 : decode cL_law 510 = .ok (.aload_n 1, 1) := by decide +kernel
theorem dL_law_511 : decode cL_law 511 = .ok (.iconst 0, 1) := by decide +kernel
theorem dL_law_512 : decode cL_law 512 = .ok (.iconst 4, 1) := by decide +kernel
theorem dL_law_513 : decode cL_law 513 = .ok (.bipush 9, 2) := by decide +kernel
theorem dL_law_515 : decode cL_law 515 = .ok (.invokevirtual 33, 3) := by decide +kernel
theorem dL_law_518 : decode cL_law 518 = .ok (.iconst (-1), 1) := by decide +kernel
theorem dL_law_519 : decode cL_law 519 = .ok (.if_icmp .ne 31, 3) := by decide +kernel
theorem dL_law_522 : decode cL_law 522 = .ok (.aload_n 1, 1) := by decide +kernel
theorem dL_law_523 : decode cL_law 523 = .ok (.iconst 0, 1) := by decide +kernel
theorem dL_law_524 : decode cL_law 524 = .ok (.iconst 0, 1) := by decide +kernel
theorem dL_law_525 : decode cL_law 525 = .ok (.bipush 7, 2) := by decide +kernel
theorem dL_law_527 : decode cL_law 527 = .ok (.invokevirtual 33, 3) := by decide +kernel
theorem dL_law_530 : decode cL_law 530 = .ok (.bipush (-2), 2) := by decide +kernel
theorem dL_law_532 : decode cL_law 532 = .ok (.if_icmp .ne 18, 3) := by decide +kernel
theorem dL_law_535 : decode cL_law 535 = .ok (.aload_n 1, 1) := by decide +kernel
theorem dL_law_536 : decode cL_law 536 = .ok (.iconst 0, 1) := by decide +kernel
theorem dL_law_537 : decode cL_law 537 = .ok (.bipush 52, 2) := by decide +kernel
theorem dL_law_539 : decode cL_law 539 = .ok (.invokevirtual 46, 3) := by decide +kernel
theorem dL_law_542 : decode cL_law 542 = .ok (.iconst (-1), 1) := by decide +kernel
theorem dL_law_543 : decode cL_law 543 = .ok (.if_icmp .ne 7, 3) := by decide +kernel
theorem dL_law_546 : decode cL_law 546 = .ok (.iconst 1, 1) := by decide +kernel
theorem dL_law_547 : decode cL_law 547 = .ok (.goto 4, 3) := by decide +kernel
theorem dL_law_550 : decode cL_law 550 = .ok (.iconst 0, 1) := by decide +kernel
theorem dL_law_551 : decode cL_law 551 = .ok (.ireturn, 1) := by decide +kernel
