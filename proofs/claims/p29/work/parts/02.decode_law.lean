theorem dL_cell_0 : decode cL_cell 0 = .ok (.iload_n 1, 1) := by decide +kernel
theorem dL_cell_1 : decode cL_cell 1 = .ok (.aload_n 0, 1) := by decide +kernel
theorem dL_cell_2 : decode cL_cell 2 = .ok (.arraylength, 1) := by decide +kernel
theorem dL_cell_3 : decode cL_cell 3 = .ok (.if_icmp .ge 9, 3) := by decide +kernel
theorem dL_cell_6 : decode cL_cell 6 = .ok (.aload_n 0, 1) := by decide +kernel
theorem dL_cell_7 : decode cL_cell 7 = .ok (.iload_n 1, 1) := by decide +kernel
theorem dL_cell_8 : decode cL_cell 8 = .ok (.iaload, 1) := by decide +kernel
theorem dL_cell_9 : decode cL_cell 9 = .ok (.goto 11, 3) := by decide +kernel
theorem dL_cell_12 : decode cL_cell 12 = .ok (.ldc 7, 2) := by decide +kernel
theorem dL_cell_14 : decode cL_cell 14 = .ok (.iload_n 1, 1) := by decide +kernel
theorem dL_cell_15 : decode cL_cell 15 = .ok (.imul, 1) := by decide +kernel
theorem dL_cell_16 : decode cL_cell 16 = .ok (.sipush 971, 3) := by decide +kernel
theorem dL_cell_19 : decode cL_cell 19 = .ok (.iadd, 1) := by decide +kernel
theorem dL_cell_20 : decode cL_cell 20 = .ok (.ireturn, 1) := by decide +kernel
theorem dL_low_0 : decode cL_low 0 = .ok (.iload_n 0, 1) := by decide +kernel
theorem dL_low_1 : decode cL_low 1 = .ok (.ldc 8, 2) := by decide +kernel
theorem dL_low_3 : decode cL_low 3 = .ok (.iand, 1) := by decide +kernel
theorem dL_low_4 : decode cL_low 4 = .ok (.iload_n 1, 1) := by decide +kernel
theorem dL_low_5 : decode cL_low 5 = .ok (.irem, 1) := by decide +kernel
theorem dL_low_6 : decode cL_low 6 = .ok (.ireturn, 1) := by decide +kernel
theorem dL_read_0 : decode cL_read 0 = .ok (.iconst 0, 1) := by decide +kernel
theorem dL_read_1 : decode cL_read 1 = .ok (.istore 5, 2) := by decide +kernel
theorem dL_read_3 : decode cL_read 3 = .ok (.iload 5, 2) := by decide +kernel
theorem dL_read_5 : decode cL_read 5 = .ok (.iload_n 3, 1) := by decide +kernel
theorem dL_read_6 : decode cL_read 6 = .ok (.if_icmp .ge 45, 3) := by decide +kernel
theorem dL_read_9 : decode cL_read 9 = .ok (.aload 4, 2) := by decide +kernel
theorem dL_read_11 : decode cL_read 11 = .ok (.iload 5, 2) := by decide +kernel
theorem dL_read_13 : decode cL_read 13 = .ok (.iload_n 1, 1) := by decide +kernel
theorem dL_read_14 : decode cL_read 14 = .ok (.bipush 100, 2) := by decide +kernel
theorem dL_read_16 : decode cL_read 16 = .ok (.if_icmp .ge 14, 3) := by decide +kernel
theorem dL_read_19 : decode cL_read 19 = .ok (.aload_n 0, 1) := by decide +kernel
theorem dL_read_20 : decode cL_read 20 = .ok (.iload_n 2, 1) := by decide +kernel
theorem dL_read_21 : decode cL_read 21 = .ok (.iload_n 1, 1) := by decide +kernel
theorem dL_read_22 : decode cL_read 22 = .ok (.iload 5, 2) := by decide +kernel
theorem dL_read_24 : decode cL_read 24 = .ok (.invokevirtual 9, 3) := by decide +kernel
theorem dL_read_27 : decode cL_read 27 = .ok (.goto 17, 3) := by decide +kernel
theorem dL_read_30 : decode cL_read 30 = .ok (.aload_n 0, 1) := by decide +kernel
theorem dL_read_31 : decode cL_read 31 = .ok (.iload_n 1, 1) := by decide +kernel
theorem dL_read_32 : decode cL_read 32 = .ok (.bipush 100, 2) := by decide +kernel
theorem dL_read_34 : decode cL_read 34 = .ok (.isub, 1) := by decide +kernel
theorem dL_read_35 : decode cL_read 35 = .ok (.bipush 10, 2) := by decide +kernel
theorem dL_read_37 : decode cL_read 37 = .ok (.idiv, 1) := by decide +kernel
theorem dL_read_38 : decode cL_read 38 = .ok (.iload_n 2, 1) := by decide +kernel
theorem dL_read_39 : decode cL_read 39 = .ok (.iload 5, 2) := by decide +kernel
theorem dL_read_41 : decode cL_read 41 = .ok (.invokevirtual 15, 3) := by decide +kernel
theorem dL_read_44 : decode cL_read 44 = .ok (.iastore, 1) := by decide +kernel
theorem dL_read_45 : decode cL_read 45 = .ok (.iinc 5 1, 3) := by decide +kernel
theorem dL_read_48 : decode cL_read 48 = .ok (.goto (-45), 3) := by decide +kernel
theorem dL_read_51 : decode cL_read 51 = .ok (.return_, 1) := by decide +kernel
theorem dL_most_0 : decode cL_most 0 = .ok (.iconst 0, 1) := by decide +kernel
theorem dL_most_1 : decode cL_most 1 = .ok (.istore_n 3, 1) := by decide +kernel
theorem dL_most_2 : decode cL_most 2 = .ok (.iload_n 3, 1) := by decide +kernel
theorem dL_most_3 : decode cL_most 3 = .ok (.iload_n 2, 1) := by decide +kernel
theorem dL_most_4 : decode cL_most 4 = .ok (.if_icmp .ge 20, 3) := by decide +kernel
theorem dL_most_7 : decode cL_most 7 = .ok (.aload_n 0, 1) := by decide +kernel
theorem dL_most_8 : decode cL_most 8 = .ok (.iload_n 3, 1) := by decide +kernel
theorem dL_most_9 : decode cL_most 9 = .ok (.iaload, 1) := by decide +kernel
theorem dL_most_10 : decode cL_most 10 = .ok (.aload_n 1, 1) := by decide +kernel
theorem dL_most_11 : decode cL_most 11 = .ok (.iload_n 3, 1) := by decide +kernel
theorem dL_most_12 : decode cL_most 12 = .ok (.iaload, 1) := by decide +kernel
theorem dL_most_13 : decode cL_most 13 = .ok (.if_icmp .le 5, 3) := by decide +kernel
theorem dL_most_16 : decode cL_most 16 = .ok (.iconst 0, 1) := by decide +kernel
theorem dL_most_17 : decode cL_most 17 = .ok (.ireturn, 1) := by decide +kernel
theorem dL_most_18 : decode cL_most 18 = .ok (.iinc 3 1, 3) := by decide +kernel
theorem dL_most_21 : decode cL_most 21 = .ok (.goto (-19), 3) := by decide +kernel
theorem dL_most_24 : decode cL_most 24 = .ok (.iconst 1, 1) := by decide +kernel
theorem dL_most_25 : decode cL_most 25 = .ok (.ireturn, 1) := by decide +kernel
theorem dL_alarm_0 : decode cL_alarm 0 = .ok (.aload_n 0, 1) := by decide +kernel
theorem dL_alarm_1 : decode cL_alarm 1 = .ok (.iload_n 1, 1) := by decide +kernel
theorem dL_alarm_2 : decode cL_alarm 2 = .ok (.iconst 0, 1) := by decide +kernel
theorem dL_alarm_3 : decode cL_alarm 3 = .ok (.invokevirtual 18, 3) := by decide +kernel
theorem dL_alarm_6 : decode cL_alarm 6 = .ok (.istore 4, 2) := by decide +kernel
theorem dL_alarm_8 : decode cL_alarm 8 = .ok (.bipush 8, 2) := by decide +kernel
theorem dL_alarm_10 : decode cL_alarm 10 = .ok (.newarray .int, 2) := by decide +kernel
theorem dL_alarm_12 : decode cL_alarm 12 = .ok (.astore 5, 2) := by decide +kernel
theorem dL_alarm_14 : decode cL_alarm 14 = .ok (.bipush 8, 2) := by decide +kernel
theorem dL_alarm_16 : decode cL_alarm 16 = .ok (.newarray .int, 2) := by decide +kernel
theorem dL_alarm_18 : decode cL_alarm 18 = .ok (.astore 6, 2) := by decide +kernel
theorem dL_alarm_20 : decode cL_alarm 20 = .ok (.aload_n 0, 1) := by decide +kernel
theorem dL_alarm_21 : decode cL_alarm 21 = .ok (.bipush 100, 2) := by decide +kernel
theorem dL_alarm_23 : decode cL_alarm 23 = .ok (.bipush 10, 2) := by decide +kernel
theorem dL_alarm_25 : decode cL_alarm 25 = .ok (.iload 4, 2) := by decide +kernel
theorem dL_alarm_27 : decode cL_alarm 27 = .ok (.imul, 1) := by decide +kernel
theorem dL_alarm_28 : decode cL_alarm 28 = .ok (.iadd, 1) := by decide +kernel
theorem dL_alarm_29 : decode cL_alarm 29 = .ok (.iload_n 1, 1) := by decide +kernel
theorem dL_alarm_30 : decode cL_alarm 30 = .ok (.iload_n 2, 1) := by decide +kernel
theorem dL_alarm_31 : decode cL_alarm 31 = .ok (.aload 5, 2) := by decide +kernel
theorem dL_alarm_33 : decode cL_alarm 33 = .ok (.invokestatic 22, 3) := by decide +kernel
theorem dL_alarm_36 : decode cL_alarm 36 = .ok (.aload_n 0, 1) := by decide +kernel
theorem dL_alarm_37 : decode cL_alarm 37 = .ok (.iconst 0, 1) := by decide +kernel
theorem dL_alarm_38 : decode cL_alarm 38 = .ok (.iload_n 1, 1) := by decide +kernel
theorem dL_alarm_39 : decode cL_alarm 39 = .ok (.iload_n 2, 1) := by decide +kernel
theorem dL_alarm_40 : decode cL_alarm 40 = .ok (.aload 6, 2) := by decide +kernel
theorem dL_alarm_42 : decode cL_alarm 42 = .ok (.invokestatic 22, 3) := by decide +kernel
theorem dL_alarm_45 : decode cL_alarm 45 = .ok (.aload 5, 2) := by decide +kernel
theorem dL_alarm_47 : decode cL_alarm 47 = .ok (.aload 6, 2) := by decide +kernel
theorem dL_alarm_49 : decode cL_alarm 49 = .ok (.iload_n 2, 1) := by decide +kernel
theorem dL_alarm_50 : decode cL_alarm 50 = .ok (.invokestatic 28, 3) := by decide +kernel
theorem dL_alarm_53 : decode cL_alarm 53 = .ok (.ifCond .eq 14, 3) := by decide +kernel
theorem dL_alarm_56 : decode cL_alarm 56 = .ok (.aload 6, 2) := by decide +kernel
theorem dL_alarm_58 : decode cL_alarm 58 = .ok (.aload 5, 2) := by decide +kernel
theorem dL_alarm_60 : decode cL_alarm 60 = .ok (.iload_n 2, 1) := by decide +kernel
theorem dL_alarm_61 : decode cL_alarm 61 = .ok (.invokestatic 28, 3) := by decide +kernel
theorem dL_alarm_64 : decode cL_alarm 64 = .ok (.ifCond .ne 5, 3) := by decide +kernel
theorem dL_alarm_67 : decode cL_alarm 67 = .ok (.iconst 1, 1) := by decide +kernel
theorem dL_alarm_68 : decode cL_alarm 68 = .ok (.ireturn, 1) := by decide +kernel
theorem dL_alarm_69 : decode cL_alarm 69 = .ok (.iconst 0, 1) := by decide +kernel
theorem dL_alarm_70 : decode cL_alarm 70 = .ok (.istore 7, 2) := by decide +kernel
theorem dL_alarm_72 : decode cL_alarm 72 = .ok (.iload 7, 2) := by decide +kernel
theorem dL_alarm_74 : decode cL_alarm 74 = .ok (.iload_n 2, 1) := by decide +kernel
theorem dL_alarm_75 : decode cL_alarm 75 = .ok (.if_icmp .ge 14, 3) := by decide +kernel
theorem dL_alarm_78 : decode cL_alarm 78 = .ok (.aload_n 3, 1) := by decide +kernel
theorem dL_alarm_79 : decode cL_alarm 79 = .ok (.iload 7, 2) := by decide +kernel
theorem dL_alarm_81 : decode cL_alarm 81 = .ok (.iconst 0, 1) := by decide +kernel
theorem dL_alarm_82 : decode cL_alarm 82 = .ok (.iastore, 1) := by decide +kernel
theorem dL_alarm_83 : decode cL_alarm 83 = .ok (.iinc 7 1, 3) := by decide +kernel
theorem dL_alarm_86 : decode cL_alarm 86 = .ok (.goto (-14), 3) := by decide +kernel
theorem dL_alarm_89 : decode cL_alarm 89 = .ok (.iconst 0, 1) := by decide +kernel
theorem dL_alarm_90 : decode cL_alarm 90 = .ok (.istore 7, 2) := by decide +kernel
theorem dL_alarm_92 : decode cL_alarm 92 = .ok (.iload 7, 2) := by decide +kernel
theorem dL_alarm_94 : decode cL_alarm 94 = .ok (.iload_n 2, 1) := by decide +kernel
theorem dL_alarm_95 : decode cL_alarm 95 = .ok (.if_icmp .ge 126, 3) := by decide +kernel
theorem dL_alarm_98 : decode cL_alarm 98 = .ok (.aload_n 0, 1) := by decide +kernel
theorem dL_alarm_99 : decode cL_alarm 99 = .ok (.bipush 100, 2) := by decide +kernel
theorem dL_alarm_101 : decode cL_alarm 101 = .ok (.bipush 10, 2) := by decide +kernel
theorem dL_alarm_103 : decode cL_alarm 103 = .ok (.iload 4, 2) := by decide +kernel
theorem dL_alarm_105 : decode cL_alarm 105 = .ok (.imul, 1) := by decide +kernel
theorem dL_alarm_106 : decode cL_alarm 106 = .ok (.iadd, 1) := by decide +kernel
theorem dL_alarm_107 : decode cL_alarm 107 = .ok (.iload 7, 2) := by decide +kernel
theorem dL_alarm_109 : decode cL_alarm 109 = .ok (.iload_n 2, 1) := by decide +kernel
theorem dL_alarm_110 : decode cL_alarm 110 = .ok (.aload 5, 2) := by decide +kernel
theorem dL_alarm_112 : decode cL_alarm 112 = .ok (.invokestatic 22, 3) := by decide +kernel
theorem dL_alarm_115 : decode cL_alarm 115 = .ok (.iconst 0, 1) := by decide +kernel
theorem dL_alarm_116 : decode cL_alarm 116 = .ok (.istore 8, 2) := by decide +kernel
theorem dL_alarm_118 : decode cL_alarm 118 = .ok (.iload 8, 2) := by decide +kernel
theorem dL_alarm_120 : decode cL_alarm 120 = .ok (.iload 7, 2) := by decide +kernel
theorem dL_alarm_122 : decode cL_alarm 122 = .ok (.if_icmp .ge 50, 3) := by decide +kernel
theorem dL_alarm_125 : decode cL_alarm 125 = .ok (.aload_n 0, 1) := by decide +kernel
theorem dL_alarm_126 : decode cL_alarm 126 = .ok (.bipush 100, 2) := by decide +kernel
theorem dL_alarm_128 : decode cL_alarm 128 = .ok (.bipush 10, 2) := by decide +kernel
theorem dL_alarm_130 : decode cL_alarm 130 = .ok (.iload 4, 2) := by decide +kernel
theorem dL_alarm_132 : decode cL_alarm 132 = .ok (.imul, 1) := by decide +kernel
theorem dL_alarm_133 : decode cL_alarm 133 = .ok (.iadd, 1) := by decide +kernel
theorem dL_alarm_134 : decode cL_alarm 134 = .ok (.iload 8, 2) := by decide +kernel
theorem dL_alarm_136 : decode cL_alarm 136 = .ok (.iload_n 2, 1) := by decide +kernel
theorem dL_alarm_137 : decode cL_alarm 137 = .ok (.aload 6, 2) := by decide +kernel
theorem dL_alarm_139 : decode cL_alarm 139 = .ok (.invokestatic 22, 3) := by decide +kernel
theorem dL_alarm_142 : decode cL_alarm 142 = .ok (.aload 5, 2) := by decide +kernel
theorem dL_alarm_144 : decode cL_alarm 144 = .ok (.aload 6, 2) := by decide +kernel
theorem dL_alarm_146 : decode cL_alarm 146 = .ok (.iload_n 2, 1) := by decide +kernel
theorem dL_alarm_147 : decode cL_alarm 147 = .ok (.invokestatic 28, 3) := by decide +kernel
theorem dL_alarm_150 : decode cL_alarm 150 = .ok (.ifCond .ne 16, 3) := by decide +kernel
theorem dL_alarm_153 : decode cL_alarm 153 = .ok (.aload 6, 2) := by decide +kernel
theorem dL_alarm_155 : decode cL_alarm 155 = .ok (.aload 5, 2) := by decide +kernel
theorem dL_alarm_157 : decode cL_alarm 157 = .ok (.iload_n 2, 1) := by decide +kernel
theorem dL_alarm_158 : decode cL_alarm 158 = .ok (.invokestatic 28, 3) := by decide +kernel
theorem dL_alarm_161 : decode cL_alarm 161 = .ok (.ifCond .ne 5, 3) := by decide +kernel
theorem dL_alarm_164 : decode cL_alarm 164 = .ok (.iconst 2, 1) := by decide +kernel
theorem dL_alarm_165 : decode cL_alarm 165 = .ok (.ireturn, 1) := by decide +kernel
theorem dL_alarm_166 : decode cL_alarm 166 = .ok (.iinc 8 1, 3) := by decide +kernel
theorem dL_alarm_169 : decode cL_alarm 169 = .ok (.goto (-51), 3) := by decide +kernel
theorem dL_alarm_172 : decode cL_alarm 172 = .ok (.iconst 0, 1) := by decide +kernel
theorem dL_alarm_173 : decode cL_alarm 173 = .ok (.istore 8, 2) := by decide +kernel
theorem dL_alarm_175 : decode cL_alarm 175 = .ok (.iload 8, 2) := by decide +kernel
theorem dL_alarm_177 : decode cL_alarm 177 = .ok (.iload_n 2, 1) := by decide +kernel
theorem dL_alarm_178 : decode cL_alarm 178 = .ok (.if_icmp .ge 37, 3) := by decide +kernel
theorem dL_alarm_181 : decode cL_alarm 181 = .ok (.aload_n 3, 1) := by decide +kernel
theorem dL_alarm_182 : decode cL_alarm 182 = .ok (.iload 8, 2) := by decide +kernel
theorem dL_alarm_184 : decode cL_alarm 184 = .ok (.aload 5, 2) := by decide +kernel
theorem dL_alarm_186 : decode cL_alarm 186 = .ok (.iload 8, 2) := by decide +kernel
theorem dL_alarm_188 : decode cL_alarm 188 = .ok (.iaload, 1) := by decide +kernel
theorem dL_alarm_189 : decode cL_alarm 189 = .ok (.aload_n 3, 1) := by decide +kernel
theorem dL_alarm_190 : decode cL_alarm 190 = .ok (.iload 8, 2) := by decide +kernel
theorem dL_alarm_192 : decode cL_alarm 192 = .ok (.iaload, 1) := by decide +kernel
theorem dL_alarm_193 : decode cL_alarm 193 = .ok (.if_icmp .le 11, 3) := by decide +kernel
theorem dL_alarm_196 : decode cL_alarm 196 = .ok (.aload 5, 2) := by decide +kernel
theorem dL_alarm_198 : decode cL_alarm 198 = .ok (.iload 8, 2) := by decide +kernel
theorem dL_alarm_200 : decode cL_alarm 200 = .ok (.iaload, 1) := by decide +kernel
theorem dL_alarm_201 : decode cL_alarm 201 = .ok (.goto 7, 3) := by decide +kernel
theorem dL_alarm_204 : decode cL_alarm 204 = .ok (.aload_n 3, 1) := by decide +kernel
theorem dL_alarm_205 : decode cL_alarm 205 = .ok (.iload 8, 2) := by decide +kernel
theorem dL_alarm_207 : decode cL_alarm 207 = .ok (.iaload, 1) := by decide +kernel
theorem dL_alarm_208 : decode cL_alarm 208 = .ok (.iastore, 1) := by decide +kernel
theorem dL_alarm_209 : decode cL_alarm 209 = .ok (.iinc 8 1, 3) := by decide +kernel
theorem dL_alarm_212 : decode cL_alarm 212 = .ok (.goto (-37), 3) := by decide +kernel
theorem dL_alarm_215 : decode cL_alarm 215 = .ok (.iinc 7 1, 3) := by decide +kernel
theorem dL_alarm_218 : decode cL_alarm 218 = .ok (.goto (-126), 3) := by decide +kernel
theorem dL_alarm_221 : decode cL_alarm 221 = .ok (.aload_n 0, 1) := by decide +kernel
theorem dL_alarm_222 : decode cL_alarm 222 = .ok (.iconst 1, 1) := by decide +kernel
theorem dL_alarm_223 : decode cL_alarm 223 = .ok (.iload_n 1, 1) := by decide +kernel
theorem dL_alarm_224 : decode cL_alarm 224 = .ok (.iload_n 2, 1) := by decide +kernel
theorem dL_alarm_225 : decode cL_alarm 225 = .ok (.aload 5, 2) := by decide +kernel
theorem dL_alarm_227 : decode cL_alarm 227 = .ok (.invokestatic 22, 3) := by decide +kernel
theorem dL_alarm_230 : decode cL_alarm 230 = .ok (.aload 5, 2) := by decide +kernel
theorem dL_alarm_232 : decode cL_alarm 232 = .ok (.aload_n 3, 1) := by decide +kernel
theorem dL_alarm_233 : decode cL_alarm 233 = .ok (.iload_n 2, 1) := by decide +kernel
theorem dL_alarm_234 : decode cL_alarm 234 = .ok (.invokestatic 28, 3) := by decide +kernel
theorem dL_alarm_237 : decode cL_alarm 237 = .ok (.ifCond .eq 7, 3) := by decide +kernel
theorem dL_alarm_240 : decode cL_alarm 240 = .ok (.iconst 0, 1) := by decide +kernel
theorem dL_alarm_241 : decode cL_alarm 241 = .ok (.goto 4, 3) := by decide +kernel
theorem dL_alarm_244 : decode cL_alarm 244 = .ok (.iconst 3, 1) := by decide +kernel
theorem dL_alarm_245 : decode cL_alarm 245 = .ok (.ireturn, 1) := by decide +kernel
theorem dL_operates_0 : decode cL_operates 0 = .ok (.bipush 8, 2) := by decide +kernel
theorem dL_operates_2 : decode cL_operates 2 = .ok (.newarray .int, 2) := by decide +kernel
theorem dL_operates_4 : decode cL_operates 4 = .ok (.astore 4, 2) := by decide +kernel
theorem dL_operates_6 : decode cL_operates 6 = .ok (.aload_n 0, 1) := by decide +kernel
theorem dL_operates_7 : decode cL_operates 7 = .ok (.iload_n 1, 1) := by decide +kernel
theorem dL_operates_8 : decode cL_operates 8 = .ok (.iconst 1, 1) := by decide +kernel
theorem dL_operates_9 : decode cL_operates 9 = .ok (.invokevirtual 18, 3) := by decide +kernel
theorem dL_operates_12 : decode cL_operates 12 = .ok (.istore 5, 2) := by decide +kernel
theorem dL_operates_14 : decode cL_operates 14 = .ok (.aload_n 0, 1) := by decide +kernel
theorem dL_operates_15 : decode cL_operates 15 = .ok (.iload_n 1, 1) := by decide +kernel
theorem dL_operates_16 : decode cL_operates 16 = .ok (.iload_n 2, 1) := by decide +kernel
theorem dL_operates_17 : decode cL_operates 17 = .ok (.aload 4, 2) := by decide +kernel
theorem dL_operates_19 : decode cL_operates 19 = .ok (.invokestatic 32, 3) := by decide +kernel
theorem dL_operates_22 : decode cL_operates 22 = .ok (.istore 6, 2) := by decide +kernel
theorem dL_operates_24 : decode cL_operates 24 = .ok (.aload_n 0, 1) := by decide +kernel
theorem dL_operates_25 : decode cL_operates 25 = .ok (.iload_n 1, 1) := by decide +kernel
theorem dL_operates_26 : decode cL_operates 26 = .ok (.iconst 0, 1) := by decide +kernel
theorem dL_operates_27 : decode cL_operates 27 = .ok (.invokevirtual 18, 3) := by decide +kernel
theorem dL_operates_30 : decode cL_operates 30 = .ok (.istore 7, 2) := by decide +kernel
theorem dL_operates_32 : decode cL_operates 32 = .ok (.aload_n 0, 1) := by decide +kernel
theorem dL_operates_33 : decode cL_operates 33 = .ok (.iload_n 1, 1) := by decide +kernel
theorem dL_operates_34 : decode cL_operates 34 = .ok (.invokevirtual 36, 3) := by decide +kernel
theorem dL_operates_37 : decode cL_operates 37 = .ok (.istore 8, 2) := by decide +kernel
theorem dL_operates_39 : decode cL_operates 39 = .ok (.aload_n 0, 1) := by decide +kernel
theorem dL_operates_40 : decode cL_operates 40 = .ok (.iload_n 1, 1) := by decide +kernel
theorem dL_operates_41 : decode cL_operates 41 = .ok (.iconst 5, 1) := by decide +kernel
theorem dL_operates_42 : decode cL_operates 42 = .ok (.invokevirtual 18, 3) := by decide +kernel
theorem dL_operates_45 : decode cL_operates 45 = .ok (.istore 9, 2) := by decide +kernel
theorem dL_operates_47 : decode cL_operates 47 = .ok (.aload_n 0, 1) := by decide +kernel
theorem dL_operates_48 : decode cL_operates 48 = .ok (.iload_n 1, 1) := by decide +kernel
theorem dL_operates_49 : decode cL_operates 49 = .ok (.bipush 6, 2) := by decide +kernel
theorem dL_operates_51 : decode cL_operates 51 = .ok (.invokevirtual 18, 3) := by decide +kernel
theorem dL_operates_54 : decode cL_operates 54 = .ok (.istore 10, 2) := by decide +kernel
theorem dL_operates_56 : decode cL_operates 56 = .ok (.aload_n 0, 1) := by decide +kernel
theorem dL_operates_57 : decode cL_operates 57 = .ok (.iload_n 1, 1) := by decide +kernel
theorem dL_operates_58 : decode cL_operates 58 = .ok (.iconst 4, 1) := by decide +kernel
theorem dL_operates_59 : decode cL_operates 59 = .ok (.invokevirtual 18, 3) := by decide +kernel
theorem dL_operates_62 : decode cL_operates 62 = .ok (.istore 11, 2) := by decide +kernel
theorem dL_operates_64 : decode cL_operates 64 = .ok (.aload_n 0, 1) := by decide +kernel
theorem dL_operates_65 : decode cL_operates 65 = .ok (.iconst 4, 1) := by decide +kernel
theorem dL_operates_66 : decode cL_operates 66 = .ok (.invokevirtual 40, 3) := by decide +kernel
theorem dL_operates_69 : decode cL_operates 69 = .ok (.istore 12, 2) := by decide +kernel
theorem dL_operates_71 : decode cL_operates 71 = .ok (.aload_n 0, 1) := by decide +kernel
theorem dL_operates_72 : decode cL_operates 72 = .ok (.iload 7, 2) := by decide +kernel
theorem dL_operates_74 : decode cL_operates 74 = .ok (.iconst 1, 1) := by decide +kernel
theorem dL_operates_75 : decode cL_operates 75 = .ok (.invokevirtual 43, 3) := by decide +kernel
theorem dL_operates_78 : decode cL_operates 78 = .ok (.istore 13, 2) := by decide +kernel
theorem dL_operates_80 : decode cL_operates 80 = .ok (.iload_n 3, 1) := by decide +kernel
theorem dL_operates_81 : decode cL_operates 81 = .ok (.iconst 1, 1) := by decide +kernel
theorem dL_operates_82 : decode cL_operates 82 = .ok (.iand, 1) := by decide +kernel
theorem dL_operates_83 : decode cL_operates 83 = .ok (.ifCond .ne 7, 3) := by decide +kernel
theorem dL_operates_86 : decode cL_operates 86 = .ok (.iconst 1, 1) := by decide +kernel
theorem dL_operates_87 : decode cL_operates 87 = .ok (.goto 4, 3) := by decide +kernel
theorem dL_operates_90 : decode cL_operates 90 = .ok (.iconst 0, 1) := by decide +kernel
theorem dL_operates_91 : decode cL_operates 91 = .ok (.istore 14, 2) := by decide +kernel
theorem dL_operates_93 : decode cL_operates 93 = .ok (.iload_n 3, 1) := by decide +kernel
theorem dL_operates_94 : decode cL_operates 94 = .ok (.iconst 1, 1) := by decide +kernel
theorem dL_operates_95 : decode cL_operates 95 = .ok (.ishr, 1) := by decide +kernel
theorem dL_operates_96 : decode cL_operates 96 = .ok (.iload_n 2, 1) := by decide +kernel
theorem dL_operates_97 : decode cL_operates 97 = .ok (.invokestatic 46, 3) := by decide +kernel
theorem dL_operates_100 : decode cL_operates 100 = .ok (.istore 15, 2) := by decide +kernel
theorem dL_operates_102 : decode cL_operates 102 = .ok (.iload_n 3, 1) := by decide +kernel
theorem dL_operates_103 : decode cL_operates 103 = .ok (.iconst 4, 1) := by decide +kernel
theorem dL_operates_104 : decode cL_operates 104 = .ok (.ishr, 1) := by decide +kernel
theorem dL_operates_105 : decode cL_operates 105 = .ok (.sipush 2001, 3) := by decide +kernel
theorem dL_operates_108 : decode cL_operates 108 = .ok (.invokestatic 46, 3) := by decide +kernel
theorem dL_operates_111 : decode cL_operates 111 = .ok (.sipush 1000, 3) := by decide +kernel
theorem dL_operates_114 : decode cL_operates 114 = .ok (.isub, 1) := by decide +kernel
theorem dL_operates_115 : decode cL_operates 115 = .ok (.istore 16, 2) := by decide +kernel
theorem dL_operates_117 : decode cL_operates 117 = .ok (.aload_n 0, 1) := by decide +kernel
theorem dL_operates_118 : decode cL_operates 118 = .ok (.iload 7, 2) := by decide +kernel
theorem dL_operates_120 : decode cL_operates 120 = .ok (.iload 15, 2) := by decide +kernel
theorem dL_operates_122 : decode cL_operates 122 = .ok (.invokevirtual 49, 3) := by decide +kernel
theorem dL_operates_125 : decode cL_operates 125 = .ok (.istore 17, 2) := by decide +kernel
theorem dL_operates_127 : decode cL_operates 127 = .ok (.aload_n 0, 1) := by decide +kernel
theorem dL_operates_128 : decode cL_operates 128 = .ok (.iload_n 1, 1) := by decide +kernel
theorem dL_operates_129 : decode cL_operates 129 = .ok (.invokevirtual 52, 3) := by decide +kernel
theorem dL_operates_132 : decode cL_operates 132 = .ok (.istore 18, 2) := by decide +kernel
theorem dL_operates_134 : decode cL_operates 134 = .ok (.iload 14, 2) := by decide +kernel
theorem dL_operates_136 : decode cL_operates 136 = .ok (.ifCond .eq 13, 3) := by decide +kernel
theorem dL_operates_139 : decode cL_operates 139 = .ok (.aload_n 0, 1) := by decide +kernel
theorem dL_operates_140 : decode cL_operates 140 = .ok (.iload_n 1, 1) := by decide +kernel
theorem dL_operates_141 : decode cL_operates 141 = .ok (.iload 16, 2) := by decide +kernel
theorem dL_operates_143 : decode cL_operates 143 = .ok (.invokevirtual 55, 3) := by decide +kernel
theorem dL_operates_146 : decode cL_operates 146 = .ok (.goto 10, 3) := by decide +kernel
theorem dL_operates_149 : decode cL_operates 149 = .ok (.aload_n 0, 1) := by decide +kernel
theorem dL_operates_150 : decode cL_operates 150 = .ok (.iload_n 1, 1) := by decide +kernel
theorem dL_operates_151 : decode cL_operates 151 = .ok (.iload 15, 2) := by decide +kernel
theorem dL_operates_153 : decode cL_operates 153 = .ok (.invokevirtual 58, 3) := by decide +kernel
theorem dL_operates_156 : decode cL_operates 156 = .ok (.istore 19, 2) := by decide +kernel
theorem dL_operates_158 : decode cL_operates 158 = .ok (.iload 5, 2) := by decide +kernel
theorem dL_operates_160 : decode cL_operates 160 = .ok (.ifCond .le 47, 3) := by decide +kernel
theorem dL_operates_163 : decode cL_operates 163 = .ok (.iload 8, 2) := by decide +kernel
theorem dL_operates_165 : decode cL_operates 165 = .ok (.sipush (-10003), 3) := by decide +kernel
theorem dL_operates_168 : decode cL_operates 168 = .ok (.if_icmp .ne 37, 3) := by decide +kernel
theorem dL_operates_171 : decode cL_operates 171 = .ok (.iload 19, 2) := by decide +kernel
theorem dL_operates_173 : decode cL_operates 173 = .ok (.sipush (-10003), 3) := by decide +kernel
theorem dL_operates_176 : decode cL_operates 176 = .ok (.if_icmp .ne 29, 3) := by decide +kernel
theorem dL_operates_179 : decode cL_operates 179 = .ok (.aload_n 0, 1) := by decide +kernel
theorem dL_operates_180 : decode cL_operates 180 = .ok (.iload_n 1, 1) := by decide +kernel
theorem dL_operates_181 : decode cL_operates 181 = .ok (.iconst 5, 1) := by decide +kernel
theorem dL_operates_182 : decode cL_operates 182 = .ok (.invokevirtual 18, 3) := by decide +kernel
theorem dL_operates_185 : decode cL_operates 185 = .ok (.iload 9, 2) := by decide +kernel
theorem dL_operates_187 : decode cL_operates 187 = .ok (.if_icmp .ne 18, 3) := by decide +kernel
theorem dL_operates_190 : decode cL_operates 190 = .ok (.aload_n 0, 1) := by decide +kernel
theorem dL_operates_191 : decode cL_operates 191 = .ok (.iload_n 1, 1) := by decide +kernel
theorem dL_operates_192 : decode cL_operates 192 = .ok (.iconst 1, 1) := by decide +kernel
theorem dL_operates_193 : decode cL_operates 193 = .ok (.invokevirtual 18, 3) := by decide +kernel
theorem dL_operates_196 : decode cL_operates 196 = .ok (.iload 5, 2) := by decide +kernel
theorem dL_operates_198 : decode cL_operates 198 = .ok (.if_icmp .ne 7, 3) := by decide +kernel
theorem dL_operates_201 : decode cL_operates 201 = .ok (.iconst 1, 1) := by decide +kernel
theorem dL_operates_202 : decode cL_operates 202 = .ok (.goto 4, 3) := by decide +kernel
theorem dL_operates_205 : decode cL_operates 205 = .ok (.iconst 0, 1) := by decide +kernel
theorem dL_operates_206 : decode cL_operates 206 = .ok (.ireturn, 1) := by decide +kernel
theorem dL_operates_207 : decode cL_operates 207 = .ok (.iload 8, 2) := by decide +kernel
theorem dL_operates_209 : decode cL_operates 209 = .ok (.iload 6, 2) := by decide +kernel
theorem dL_operates_211 : decode cL_operates 211 = .ok (.if_icmp .ne 36, 3) := by decide +kernel
theorem dL_operates_214 : decode cL_operates 214 = .ok (.iload 19, 2) := by decide +kernel
theorem dL_operates_216 : decode cL_operates 216 = .ok (.iload 6, 2) := by decide +kernel
theorem dL_operates_218 : decode cL_operates 218 = .ok (.if_icmp .ne 29, 3) := by decide +kernel
theorem dL_operates_221 : decode cL_operates 221 = .ok (.aload_n 0, 1) := by decide +kernel
theorem dL_operates_222 : decode cL_operates 222 = .ok (.iload_n 1, 1) := by decide +kernel
theorem dL_operates_223 : decode cL_operates 223 = .ok (.iconst 5, 1) := by decide +kernel
theorem dL_operates_224 : decode cL_operates 224 = .ok (.invokevirtual 18, 3) := by decide +kernel
theorem dL_operates_227 : decode cL_operates 227 = .ok (.iload 9, 2) := by decide +kernel
theorem dL_operates_229 : decode cL_operates 229 = .ok (.iload_n 2, 1) := by decide +kernel
theorem dL_operates_230 : decode cL_operates 230 = .ok (.iload_n 2, 1) := by decide +kernel
theorem dL_operates_231 : decode cL_operates 231 = .ok (.imul, 1) := by decide +kernel
theorem dL_operates_232 : decode cL_operates 232 = .ok (.iadd, 1) := by decide +kernel
theorem dL_operates_233 : decode cL_operates 233 = .ok (.if_icmp .ne 14, 3) := by decide +kernel
theorem dL_operates_236 : decode cL_operates 236 = .ok (.aload_n 0, 1) := by decide +kernel
theorem dL_operates_237 : decode cL_operates 237 = .ok (.iload_n 1, 1) := by decide +kernel
theorem dL_operates_238 : decode cL_operates 238 = .ok (.iconst 1, 1) := by decide +kernel
theorem dL_operates_239 : decode cL_operates 239 = .ok (.invokevirtual 18, 3) := by decide +kernel
theorem dL_operates_242 : decode cL_operates 242 = .ok (.iload 6, 2) := by decide +kernel
theorem dL_operates_244 : decode cL_operates 244 = .ok (.if_icmp .eq 5, 3) := by decide +kernel
theorem dL_operates_247 : decode cL_operates 247 = .ok (.iconst 0, 1) := by decide +kernel
theorem dL_operates_248 : decode cL_operates 248 = .ok (.ireturn, 1) := by decide +kernel
theorem dL_operates_249 : decode cL_operates 249 = .ok (.iload 6, 2) := by decide +kernel
theorem dL_operates_251 : decode cL_operates 251 = .ok (.ifCond .le 103, 3) := by decide +kernel
theorem dL_operates_254 : decode cL_operates 254 = .ok (.aload_n 0, 1) := by decide +kernel
theorem dL_operates_255 : decode cL_operates 255 = .ok (.iload_n 1, 1) := by decide +kernel
theorem dL_operates_256 : decode cL_operates 256 = .ok (.iconst 2, 1) := by decide +kernel
theorem dL_operates_257 : decode cL_operates 257 = .ok (.invokevirtual 18, 3) := by decide +kernel
theorem dL_operates_260 : decode cL_operates 260 = .ok (.iconst 1, 1) := by decide +kernel
theorem dL_operates_261 : decode cL_operates 261 = .ok (.if_icmp .ne 7, 3) := by decide +kernel
theorem dL_operates_264 : decode cL_operates 264 = .ok (.iconst 1, 1) := by decide +kernel
theorem dL_operates_265 : decode cL_operates 265 = .ok (.goto 4, 3) := by decide +kernel
theorem dL_operates_268 : decode cL_operates 268 = .ok (.iconst 0, 1) := by decide +kernel
theorem dL_operates_269 : decode cL_operates 269 = .ok (.istore 20, 2) := by decide +kernel
theorem dL_operates_271 : decode cL_operates 271 = .ok (.aload_n 0, 1) := by decide +kernel
theorem dL_operates_272 : decode cL_operates 272 = .ok (.iload_n 1, 1) := by decide +kernel
theorem dL_operates_273 : decode cL_operates 273 = .ok (.bipush 6, 2) := by decide +kernel
theorem dL_operates_275 : decode cL_operates 275 = .ok (.invokevirtual 18, 3) := by decide +kernel
theorem dL_operates_278 : decode cL_operates 278 = .ok (.iload 10, 2) := by decide +kernel
theorem dL_operates_280 : decode cL_operates 280 = .ok (.if_icmp .ne 72, 3) := by decide +kernel
theorem dL_operates_283 : decode cL_operates 283 = .ok (.aload_n 0, 1) := by decide +kernel
theorem dL_operates_284 : decode cL_operates 284 = .ok (.iload_n 1, 1) := by decide +kernel
theorem dL_operates_285 : decode cL_operates 285 = .ok (.iconst 4, 1) := by decide +kernel
theorem dL_operates_286 : decode cL_operates 286 = .ok (.invokevirtual 18, 3) := by decide +kernel
theorem dL_operates_289 : decode cL_operates 289 = .ok (.iload 11, 2) := by decide +kernel
theorem dL_operates_291 : decode cL_operates 291 = .ok (.if_icmp .ne 61, 3) := by decide +kernel
theorem dL_operates_294 : decode cL_operates 294 = .ok (.aload_n 0, 1) := by decide +kernel
theorem dL_operates_295 : decode cL_operates 295 = .ok (.iconst 4, 1) := by decide +kernel
theorem dL_operates_296 : decode cL_operates 296 = .ok (.invokevirtual 40, 3) := by decide +kernel
theorem dL_operates_299 : decode cL_operates 299 = .ok (.iload 12, 2) := by decide +kernel
theorem dL_operates_301 : decode cL_operates 301 = .ok (.if_icmp .ne 51, 3) := by decide +kernel
theorem dL_operates_304 : decode cL_operates 304 = .ok (.aload_n 0, 1) := by decide +kernel
theorem dL_operates_305 : decode cL_operates 305 = .ok (.iload 7, 2) := by decide +kernel
theorem dL_operates_307 : decode cL_operates 307 = .ok (.iconst 1, 1) := by decide +kernel
theorem dL_operates_308 : decode cL_operates 308 = .ok (.invokevirtual 43, 3) := by decide +kernel
theorem dL_operates_311 : decode cL_operates 311 = .ok (.iload 13, 2) := by decide +kernel
theorem dL_operates_313 : decode cL_operates 313 = .ok (.if_icmp .ne 39, 3) := by decide +kernel
theorem dL_operates_316 : decode cL_operates 316 = .ok (.iload 6, 2) := by decide +kernel
theorem dL_operates_318 : decode cL_operates 318 = .ok (.iconst 2, 1) := by decide +kernel
theorem dL_operates_319 : decode cL_operates 319 = .ok (.if_icmp .ne 8, 3) := by decide +kernel
theorem dL_operates_322 : decode cL_operates 322 = .ok (.iload 20, 2) := by decide +kernel
theorem dL_operates_324 : decode cL_operates 324 = .ok (.ifCond .eq 28, 3) := by decide +kernel
theorem dL_operates_327 : decode cL_operates 327 = .ok (.iload 6, 2) := by decide +kernel
theorem dL_operates_329 : decode cL_operates 329 = .ok (.iconst 1, 1) := by decide +kernel
theorem dL_operates_330 : decode cL_operates 330 = .ok (.if_icmp .ne 8, 3) := by decide +kernel
theorem dL_operates_333 : decode cL_operates 333 = .ok (.iload 20, 2) := by decide +kernel
theorem dL_operates_335 : decode cL_operates 335 = .ok (.ifCond .ne 17, 3) := by decide +kernel
theorem dL_operates_338 : decode cL_operates 338 = .ok (.aload_n 0, 1) := by decide +kernel
theorem dL_operates_339 : decode cL_operates 339 = .ok (.iload_n 1, 1) := by decide +kernel
theorem dL_operates_340 : decode cL_operates 340 = .ok (.invokevirtual 52, 3) := by decide +kernel
theorem dL_operates_343 : decode cL_operates 343 = .ok (.iload 18, 2) := by decide +kernel
theorem dL_operates_345 : decode cL_operates 345 = .ok (.if_icmp .ne 7, 3) := by decide +kernel
theorem dL_operates_348 : decode cL_operates 348 = .ok (.iconst 1, 1) := by decide +kernel
theorem dL_operates_349 : decode cL_operates 349 = .ok (.goto 4, 3) := by decide +kernel
theorem dL_operates_352 : decode cL_operates 352 = .ok (.iconst 0, 1) := by decide +kernel
theorem dL_operates_353 : decode cL_operates 353 = .ok (.ireturn, 1) := by decide +kernel
theorem dL_operates_354 : decode cL_operates 354 = .ok (.iconst 0, 1) := by decide +kernel
theorem dL_operates_355 : decode cL_operates 355 = .ok (.istore 20, 2) := by decide +kernel
theorem dL_operates_357 : decode cL_operates 357 = .ok (.iload 20, 2) := by decide +kernel
theorem dL_operates_359 : decode cL_operates 359 = .ok (.iload_n 2, 1) := by decide +kernel
theorem dL_operates_360 : decode cL_operates 360 = .ok (.if_icmp .ge 70, 3) := by decide +kernel
theorem dL_operates_363 : decode cL_operates 363 = .ok (.aload 4, 2) := by decide +kernel
theorem dL_operates_365 : decode cL_operates 365 = .ok (.iload 20, 2) := by decide +kernel
theorem dL_operates_367 : decode cL_operates 367 = .ok (.iaload, 1) := by decide +kernel
theorem dL_operates_368 : decode cL_operates 368 = .ok (.iload 20, 2) := by decide +kernel
theorem dL_operates_370 : decode cL_operates 370 = .ok (.iload_n 1, 1) := by decide +kernel
theorem dL_operates_371 : decode cL_operates 371 = .ok (.if_icmp .ne 7, 3) := by decide +kernel
theorem dL_operates_374 : decode cL_operates 374 = .ok (.iconst 1, 1) := by decide +kernel
theorem dL_operates_375 : decode cL_operates 375 = .ok (.goto 4, 3) := by decide +kernel
theorem dL_operates_378 : decode cL_operates 378 = .ok (.iconst 0, 1) := by decide +kernel
theorem dL_operates_379 : decode cL_operates 379 = .ok (.iadd, 1) := by decide +kernel
theorem dL_operates_380 : decode cL_operates 380 = .ok (.istore 21, 2) := by decide +kernel
theorem dL_operates_382 : decode cL_operates 382 = .ok (.aload_n 0, 1) := by decide +kernel
theorem dL_operates_383 : decode cL_operates 383 = .ok (.iload_n 1, 1) := by decide +kernel
theorem dL_operates_384 : decode cL_operates 384 = .ok (.iconst 0, 1) := by decide +kernel
theorem dL_operates_385 : decode cL_operates 385 = .ok (.iload 20, 2) := by decide +kernel
theorem dL_operates_387 : decode cL_operates 387 = .ok (.invokevirtual 9, 3) := by decide +kernel
theorem dL_operates_390 : decode cL_operates 390 = .ok (.iload 21, 2) := by decide +kernel
theorem dL_operates_392 : decode cL_operates 392 = .ok (.if_icmp .ne 30, 3) := by decide +kernel
theorem dL_operates_395 : decode cL_operates 395 = .ok (.aload_n 0, 1) := by decide +kernel
theorem dL_operates_396 : decode cL_operates 396 = .ok (.iload_n 1, 1) := by decide +kernel
theorem dL_operates_397 : decode cL_operates 397 = .ok (.iconst 1, 1) := by decide +kernel
theorem dL_operates_398 : decode cL_operates 398 = .ok (.iload 20, 2) := by decide +kernel
theorem dL_operates_400 : decode cL_operates 400 = .ok (.invokevirtual 9, 3) := by decide +kernel
theorem dL_operates_403 : decode cL_operates 403 = .ok (.iload 21, 2) := by decide +kernel
theorem dL_operates_405 : decode cL_operates 405 = .ok (.if_icmp .ne 17, 3) := by decide +kernel
theorem dL_operates_408 : decode cL_operates 408 = .ok (.aload_n 0, 1) := by decide +kernel
theorem dL_operates_409 : decode cL_operates 409 = .ok (.iload 7, 2) := by decide +kernel
theorem dL_operates_411 : decode cL_operates 411 = .ok (.iload_n 1, 1) := by decide +kernel
theorem dL_operates_412 : decode cL_operates 412 = .ok (.iload 20, 2) := by decide +kernel
theorem dL_operates_414 : decode cL_operates 414 = .ok (.invokevirtual 15, 3) := by decide +kernel
theorem dL_operates_417 : decode cL_operates 417 = .ok (.iload 21, 2) := by decide +kernel
theorem dL_operates_419 : decode cL_operates 419 = .ok (.if_icmp .eq 5, 3) := by decide +kernel
theorem dL_operates_422 : decode cL_operates 422 = .ok (.iconst 0, 1) := by decide +kernel
theorem dL_operates_423 : decode cL_operates 423 = .ok (.ireturn, 1) := by decide +kernel
theorem dL_operates_424 : decode cL_operates 424 = .ok (.iinc 20 1, 3) := by decide +kernel
theorem dL_operates_427 : decode cL_operates 427 = .ok (.goto (-70), 3) := by decide +kernel
theorem dL_operates_430 : decode cL_operates 430 = .ok (.iload 14, 2) := by decide +kernel
theorem dL_operates_432 : decode cL_operates 432 = .ok (.ifCond .eq 33, 3) := by decide +kernel
theorem dL_operates_435 : decode cL_operates 435 = .ok (.aload_n 0, 1) := by decide +kernel
theorem dL_operates_436 : decode cL_operates 436 = .ok (.iload 7, 2) := by decide +kernel
theorem dL_operates_438 : decode cL_operates 438 = .ok (.iload_n 1, 1) := by decide +kernel
theorem dL_operates_439 : decode cL_operates 439 = .ok (.invokevirtual 49, 3) := by decide +kernel
theorem dL_operates_442 : decode cL_operates 442 = .ok (.iload 16, 2) := by decide +kernel
theorem dL_operates_444 : decode cL_operates 444 = .ok (.if_icmp .ne 17, 3) := by decide +kernel
theorem dL_operates_447 : decode cL_operates 447 = .ok (.aload_n 0, 1) := by decide +kernel
theorem dL_operates_448 : decode cL_operates 448 = .ok (.iload_n 1, 1) := by decide +kernel
theorem dL_operates_449 : decode cL_operates 449 = .ok (.invokevirtual 52, 3) := by decide +kernel
theorem dL_operates_452 : decode cL_operates 452 = .ok (.iload 18, 2) := by decide +kernel
theorem dL_operates_454 : decode cL_operates 454 = .ok (.if_icmp .ne 7, 3) := by decide +kernel
theorem dL_operates_457 : decode cL_operates 457 = .ok (.iconst 1, 1) := by decide +kernel
theorem dL_operates_458 : decode cL_operates 458 = .ok (.goto 35, 3) := by decide +kernel
theorem dL_operates_461 : decode cL_operates 461 = .ok (.iconst 0, 1) := by decide +kernel
theorem dL_operates_462 : decode cL_operates 462 = .ok (.goto 31, 3) := by decide +kernel
theorem dL_operates_465 : decode cL_operates 465 = .ok (.aload_n 0, 1) := by decide +kernel
theorem dL_operates_466 : decode cL_operates 466 = .ok (.iload_n 1, 1) := by decide +kernel
theorem dL_operates_467 : decode cL_operates 467 = .ok (.invokevirtual 52, 3) := by decide +kernel
theorem dL_operates_470 : decode cL_operates 470 = .ok (.iload 17, 2) := by decide +kernel
theorem dL_operates_472 : decode cL_operates 472 = .ok (.if_icmp .ne 20, 3) := by decide +kernel
theorem dL_operates_475 : decode cL_operates 475 = .ok (.aload_n 0, 1) := by decide +kernel
theorem dL_operates_476 : decode cL_operates 476 = .ok (.iload 7, 2) := by decide +kernel
theorem dL_operates_478 : decode cL_operates 478 = .ok (.iload 15, 2) := by decide +kernel
theorem dL_operates_480 : decode cL_operates 480 = .ok (.invokevirtual 49, 3) := by decide +kernel
theorem dL_operates_483 : decode cL_operates 483 = .ok (.iload 17, 2) := by decide +kernel
theorem dL_operates_485 : decode cL_operates 485 = .ok (.if_icmp .ne 7, 3) := by decide +kernel
theorem dL_operates_488 : decode cL_operates 488 = .ok (.iconst 1, 1) := by decide +kernel
theorem dL_operates_489 : decode cL_operates 489 = .ok (.goto 4, 3) := by decide +kernel
theorem dL_operates_492 : decode cL_operates 492 = .ok (.iconst 0, 1) := by decide +kernel
theorem dL_operates_493 : decode cL_operates 493 = .ok (.istore 20, 2) := by decide +kernel
theorem dL_operates_495 : decode cL_operates 495 = .ok (.iload 20, 2) := by decide +kernel
theorem dL_operates_497 : decode cL_operates 497 = .ok (.ifCond .eq 70, 3) := by decide +kernel
theorem dL_operates_500 : decode cL_operates 500 = .ok (.aload_n 0, 1) := by decide +kernel
theorem dL_operates_501 : decode cL_operates 501 = .ok (.iload_n 1, 1) := by decide +kernel
theorem dL_operates_502 : decode cL_operates 502 = .ok (.bipush 6, 2) := by decide +kernel
theorem dL_operates_504 : decode cL_operates 504 = .ok (.invokevirtual 18, 3) := by decide +kernel
theorem dL_operates_507 : decode cL_operates 507 = .ok (.iload 10, 2) := by decide +kernel
theorem dL_operates_509 : decode cL_operates 509 = .ok (.iload_n 2, 1) := by decide +kernel
theorem dL_operates_510 : decode cL_operates 510 = .ok (.iadd, 1) := by decide +kernel
theorem dL_operates_511 : decode cL_operates 511 = .ok (.if_icmp .ne 56, 3) := by decide +kernel
theorem dL_operates_514 : decode cL_operates 514 = .ok (.aload_n 0, 1) := by decide +kernel
theorem dL_operates_515 : decode cL_operates 515 = .ok (.iload_n 1, 1) := by decide +kernel
theorem dL_operates_516 : decode cL_operates 516 = .ok (.iconst 4, 1) := by decide +kernel
theorem dL_operates_517 : decode cL_operates 517 = .ok (.invokevirtual 18, 3) := by decide +kernel
theorem dL_operates_520 : decode cL_operates 520 = .ok (.iload 11, 2) := by decide +kernel
theorem dL_operates_522 : decode cL_operates 522 = .ok (.iconst 1, 1) := by decide +kernel
theorem dL_operates_523 : decode cL_operates 523 = .ok (.iadd, 1) := by decide +kernel
theorem dL_operates_524 : decode cL_operates 524 = .ok (.if_icmp .ne 43, 3) := by decide +kernel
theorem dL_operates_527 : decode cL_operates 527 = .ok (.aload_n 0, 1) := by decide +kernel
theorem dL_operates_528 : decode cL_operates 528 = .ok (.iconst 4, 1) := by decide +kernel
theorem dL_operates_529 : decode cL_operates 529 = .ok (.invokevirtual 40, 3) := by decide +kernel
theorem dL_operates_532 : decode cL_operates 532 = .ok (.iload 12, 2) := by decide +kernel
theorem dL_operates_534 : decode cL_operates 534 = .ok (.iconst 1, 1) := by decide +kernel
theorem dL_operates_535 : decode cL_operates 535 = .ok (.iadd, 1) := by decide +kernel
theorem dL_operates_536 : decode cL_operates 536 = .ok (.if_icmp .ne 31, 3) := by decide +kernel
theorem dL_operates_539 : decode cL_operates 539 = .ok (.aload_n 0, 1) := by decide +kernel
theorem dL_operates_540 : decode cL_operates 540 = .ok (.iload 7, 2) := by decide +kernel
theorem dL_operates_542 : decode cL_operates 542 = .ok (.iconst 1, 1) := by decide +kernel
theorem dL_operates_543 : decode cL_operates 543 = .ok (.invokevirtual 43, 3) := by decide +kernel
theorem dL_operates_546 : decode cL_operates 546 = .ok (.iload 13, 2) := by decide +kernel
theorem dL_operates_548 : decode cL_operates 548 = .ok (.iconst 5, 1) := by decide +kernel
theorem dL_operates_549 : decode cL_operates 549 = .ok (.if_icmp .ge 10, 3) := by decide +kernel
theorem dL_operates_552 : decode cL_operates 552 = .ok (.iload 13, 2) := by decide +kernel
theorem dL_operates_554 : decode cL_operates 554 = .ok (.iconst 1, 1) := by decide +kernel
theorem dL_operates_555 : decode cL_operates 555 = .ok (.iadd, 1) := by decide +kernel
theorem dL_operates_556 : decode cL_operates 556 = .ok (.goto 4, 3) := by decide +kernel
theorem dL_operates_559 : decode cL_operates 559 = .ok (.iconst 5, 1) := by decide +kernel
theorem dL_operates_560 : decode cL_operates 560 = .ok (.if_icmp .ne 7, 3) := by decide +kernel
theorem dL_operates_563 : decode cL_operates 563 = .ok (.iconst 1, 1) := by decide +kernel
theorem dL_operates_564 : decode cL_operates 564 = .ok (.goto 4, 3) := by decide +kernel
theorem dL_operates_567 : decode cL_operates 567 = .ok (.iconst 0, 1) := by decide +kernel
theorem dL_operates_568 : decode cL_operates 568 = .ok (.ireturn, 1) := by decide +kernel
theorem dL_letters_0 : decode cL_letters 0 = .ok (.bipush 8, 2) := by decide +kernel
theorem dL_letters_2 : decode cL_letters 2 = .ok (.newarray .int, 2) := by decide +kernel
theorem dL_letters_4 : decode cL_letters 4 = .ok (.astore 5, 2) := by decide +kernel
theorem dL_letters_6 : decode cL_letters 6 = .ok (.bipush 8, 2) := by decide +kernel
theorem dL_letters_8 : decode cL_letters 8 = .ok (.newarray .int, 2) := by decide +kernel
theorem dL_letters_10 : decode cL_letters 10 = .ok (.astore 6, 2) := by decide +kernel
theorem dL_letters_12 : decode cL_letters 12 = .ok (.aload_n 0, 1) := by decide +kernel
theorem dL_letters_13 : decode cL_letters 13 = .ok (.iload_n 2, 1) := by decide +kernel
theorem dL_letters_14 : decode cL_letters 14 = .ok (.iconst 3, 1) := by decide +kernel
theorem dL_letters_15 : decode cL_letters 15 = .ok (.invokevirtual 18, 3) := by decide +kernel
theorem dL_letters_18 : decode cL_letters 18 = .ok (.istore 7, 2) := by decide +kernel
theorem dL_letters_20 : decode cL_letters 20 = .ok (.aload_n 0, 1) := by decide +kernel
theorem dL_letters_21 : decode cL_letters 21 = .ok (.iload_n 1, 1) := by decide +kernel
theorem dL_letters_22 : decode cL_letters 22 = .ok (.bipush 6, 2) := by decide +kernel
theorem dL_letters_24 : decode cL_letters 24 = .ok (.invokevirtual 18, 3) := by decide +kernel
theorem dL_letters_27 : decode cL_letters 27 = .ok (.istore 8, 2) := by decide +kernel
theorem dL_letters_29 : decode cL_letters 29 = .ok (.aload_n 0, 1) := by decide +kernel
theorem dL_letters_30 : decode cL_letters 30 = .ok (.iconst 1, 1) := by decide +kernel
theorem dL_letters_31 : decode cL_letters 31 = .ok (.iload_n 1, 1) := by decide +kernel
theorem dL_letters_32 : decode cL_letters 32 = .ok (.iload_n 3, 1) := by decide +kernel
theorem dL_letters_33 : decode cL_letters 33 = .ok (.aload 5, 2) := by decide +kernel
theorem dL_letters_35 : decode cL_letters 35 = .ok (.invokestatic 22, 3) := by decide +kernel
theorem dL_letters_38 : decode cL_letters 38 = .ok (.aload_n 0, 1) := by decide +kernel
theorem dL_letters_39 : decode cL_letters 39 = .ok (.iload_n 1, 1) := by decide +kernel
theorem dL_letters_40 : decode cL_letters 40 = .ok (.iload_n 2, 1) := by decide +kernel
theorem dL_letters_41 : decode cL_letters 41 = .ok (.invokevirtual 60, 3) := by decide +kernel
theorem dL_letters_44 : decode cL_letters 44 = .ok (.istore 9, 2) := by decide +kernel
theorem dL_letters_46 : decode cL_letters 46 = .ok (.iload_n 1, 1) := by decide +kernel
theorem dL_letters_47 : decode cL_letters 47 = .ok (.iload_n 2, 1) := by decide +kernel
theorem dL_letters_48 : decode cL_letters 48 = .ok (.if_icmp .ne 17, 3) := by decide +kernel
theorem dL_letters_51 : decode cL_letters 51 = .ok (.iload 9, 2) := by decide +kernel
theorem dL_letters_53 : decode cL_letters 53 = .ok (.sipush (-10002), 3) := by decide +kernel
theorem dL_letters_56 : decode cL_letters 56 = .ok (.if_icmp .ne 7, 3) := by decide +kernel
theorem dL_letters_59 : decode cL_letters 59 = .ok (.iconst 1, 1) := by decide +kernel
theorem dL_letters_60 : decode cL_letters 60 = .ok (.goto 4, 3) := by decide +kernel
theorem dL_letters_63 : decode cL_letters 63 = .ok (.iconst 0, 1) := by decide +kernel
theorem dL_letters_64 : decode cL_letters 64 = .ok (.ireturn, 1) := by decide +kernel
theorem dL_letters_65 : decode cL_letters 65 = .ok (.iload 7, 2) := by decide +kernel
theorem dL_letters_67 : decode cL_letters 67 = .ok (.iconst 4, 1) := by decide +kernel
theorem dL_letters_68 : decode cL_letters 68 = .ok (.if_icmp .ne 38, 3) := by decide +kernel
theorem dL_letters_71 : decode cL_letters 71 = .ok (.iload 9, 2) := by decide +kernel
theorem dL_letters_73 : decode cL_letters 73 = .ok (.sipush (-10004), 3) := by decide +kernel
theorem dL_letters_76 : decode cL_letters 76 = .ok (.if_icmp .ne 28, 3) := by decide +kernel
theorem dL_letters_79 : decode cL_letters 79 = .ok (.aload_n 0, 1) := by decide +kernel
theorem dL_letters_80 : decode cL_letters 80 = .ok (.iload_n 1, 1) := by decide +kernel
theorem dL_letters_81 : decode cL_letters 81 = .ok (.bipush 6, 2) := by decide +kernel
theorem dL_letters_83 : decode cL_letters 83 = .ok (.invokevirtual 18, 3) := by decide +kernel
theorem dL_letters_86 : decode cL_letters 86 = .ok (.iload 8, 2) := by decide +kernel
theorem dL_letters_88 : decode cL_letters 88 = .ok (.if_icmp .ne 16, 3) := by decide +kernel
theorem dL_letters_91 : decode cL_letters 91 = .ok (.aload_n 0, 1) := by decide +kernel
theorem dL_letters_92 : decode cL_letters 92 = .ok (.iload_n 2, 1) := by decide +kernel
theorem dL_letters_93 : decode cL_letters 93 = .ok (.invokevirtual 63, 3) := by decide +kernel
theorem dL_letters_96 : decode cL_letters 96 = .ok (.iconst 3, 1) := by decide +kernel
theorem dL_letters_97 : decode cL_letters 97 = .ok (.if_icmp .ne 7, 3) := by decide +kernel
theorem dL_letters_100 : decode cL_letters 100 = .ok (.iconst 1, 1) := by decide +kernel
theorem dL_letters_101 : decode cL_letters 101 = .ok (.goto 4, 3) := by decide +kernel
theorem dL_letters_104 : decode cL_letters 104 = .ok (.iconst 0, 1) := by decide +kernel
theorem dL_letters_105 : decode cL_letters 105 = .ok (.ireturn, 1) := by decide +kernel
theorem dL_letters_106 : decode cL_letters 106 = .ok (.iload 9, 2) := by decide +kernel
theorem dL_letters_108 : decode cL_letters 108 = .ok (.iload 7, 2) := by decide +kernel
theorem dL_letters_110 : decode cL_letters 110 = .ok (.iconst 1, 1) := by decide +kernel
theorem dL_letters_111 : decode cL_letters 111 = .ok (.iadd, 1) := by decide +kernel
theorem dL_letters_112 : decode cL_letters 112 = .ok (.if_icmp .ne 17, 3) := by decide +kernel
theorem dL_letters_115 : decode cL_letters 115 = .ok (.aload_n 0, 1) := by decide +kernel
theorem dL_letters_116 : decode cL_letters 116 = .ok (.iload_n 1, 1) := by decide +kernel
theorem dL_letters_117 : decode cL_letters 117 = .ok (.bipush 6, 2) := by decide +kernel
theorem dL_letters_119 : decode cL_letters 119 = .ok (.invokevirtual 18, 3) := by decide +kernel
theorem dL_letters_122 : decode cL_letters 122 = .ok (.iload 8, 2) := by decide +kernel
theorem dL_letters_124 : decode cL_letters 124 = .ok (.iload_n 3, 1) := by decide +kernel
theorem dL_letters_125 : decode cL_letters 125 = .ok (.iadd, 1) := by decide +kernel
theorem dL_letters_126 : decode cL_letters 126 = .ok (.if_icmp .eq 5, 3) := by decide +kernel
theorem dL_letters_129 : decode cL_letters 129 = .ok (.iconst 0, 1) := by decide +kernel
theorem dL_letters_130 : decode cL_letters 130 = .ok (.ireturn, 1) := by decide +kernel
theorem dL_letters_131 : decode cL_letters 131 = .ok (.iload 7, 2) := by decide +kernel
theorem dL_letters_133 : decode cL_letters 133 = .ok (.ifCond .gt 10, 3) := by decide +kernel
theorem dL_letters_136 : decode cL_letters 136 = .ok (.iload 4, 2) := by decide +kernel
theorem dL_letters_138 : decode cL_letters 138 = .ok (.iconst 1, 1) := by decide +kernel
theorem dL_letters_139 : decode cL_letters 139 = .ok (.iand, 1) := by decide +kernel
theorem dL_letters_140 : decode cL_letters 140 = .ok (.ifCond .ne 5, 3) := by decide +kernel
theorem dL_letters_143 : decode cL_letters 143 = .ok (.iconst 1, 1) := by decide +kernel
theorem dL_letters_144 : decode cL_letters 144 = .ok (.ireturn, 1) := by decide +kernel
theorem dL_letters_145 : decode cL_letters 145 = .ok (.aload_n 0, 1) := by decide +kernel
theorem dL_letters_146 : decode cL_letters 146 = .ok (.iconst 1, 1) := by decide +kernel
theorem dL_letters_147 : decode cL_letters 147 = .ok (.iload_n 2, 1) := by decide +kernel
theorem dL_letters_148 : decode cL_letters 148 = .ok (.iload_n 3, 1) := by decide +kernel
theorem dL_letters_149 : decode cL_letters 149 = .ok (.aload 6, 2) := by decide +kernel
theorem dL_letters_151 : decode cL_letters 151 = .ok (.invokestatic 22, 3) := by decide +kernel
theorem dL_letters_154 : decode cL_letters 154 = .ok (.aload_n 0, 1) := by decide +kernel
theorem dL_letters_155 : decode cL_letters 155 = .ok (.iload_n 2, 1) := by decide +kernel
theorem dL_letters_156 : decode cL_letters 156 = .ok (.iconst 1, 1) := by decide +kernel
theorem dL_letters_157 : decode cL_letters 157 = .ok (.invokevirtual 18, 3) := by decide +kernel
theorem dL_letters_160 : decode cL_letters 160 = .ok (.istore 10, 2) := by decide +kernel
theorem dL_letters_162 : decode cL_letters 162 = .ok (.aload_n 0, 1) := by decide +kernel
theorem dL_letters_163 : decode cL_letters 163 = .ok (.iload_n 2, 1) := by decide +kernel
theorem dL_letters_164 : decode cL_letters 164 = .ok (.iconst 2, 1) := by decide +kernel
theorem dL_letters_165 : decode cL_letters 165 = .ok (.invokevirtual 18, 3) := by decide +kernel
theorem dL_letters_168 : decode cL_letters 168 = .ok (.iconst 1, 1) := by decide +kernel
theorem dL_letters_169 : decode cL_letters 169 = .ok (.if_icmp .ne 7, 3) := by decide +kernel
theorem dL_letters_172 : decode cL_letters 172 = .ok (.iconst 1, 1) := by decide +kernel
theorem dL_letters_173 : decode cL_letters 173 = .ok (.goto 4, 3) := by decide +kernel
theorem dL_letters_176 : decode cL_letters 176 = .ok (.iconst 0, 1) := by decide +kernel
theorem dL_letters_177 : decode cL_letters 177 = .ok (.istore 11, 2) := by decide +kernel
theorem dL_letters_179 : decode cL_letters 179 = .ok (.aload 5, 2) := by decide +kernel
theorem dL_letters_181 : decode cL_letters 181 = .ok (.aload 6, 2) := by decide +kernel
theorem dL_letters_183 : decode cL_letters 183 = .ok (.iload_n 3, 1) := by decide +kernel
theorem dL_letters_184 : decode cL_letters 184 = .ok (.invokestatic 28, 3) := by decide +kernel
theorem dL_letters_187 : decode cL_letters 187 = .ok (.ifCond .eq 7, 3) := by decide +kernel
theorem dL_letters_190 : decode cL_letters 190 = .ok (.iconst 0, 1) := by decide +kernel
theorem dL_letters_191 : decode cL_letters 191 = .ok (.goto 19, 3) := by decide +kernel
theorem dL_letters_194 : decode cL_letters 194 = .ok (.aload 6, 2) := by decide +kernel
theorem dL_letters_196 : decode cL_letters 196 = .ok (.aload 5, 2) := by decide +kernel
theorem dL_letters_198 : decode cL_letters 198 = .ok (.iload_n 3, 1) := by decide +kernel
theorem dL_letters_199 : decode cL_letters 199 = .ok (.invokestatic 28, 3) := by decide +kernel
theorem dL_letters_202 : decode cL_letters 202 = .ok (.ifCond .eq 7, 3) := by decide +kernel
theorem dL_letters_205 : decode cL_letters 205 = .ok (.iconst 1, 1) := by decide +kernel
theorem dL_letters_206 : decode cL_letters 206 = .ok (.goto 4, 3) := by decide +kernel
theorem dL_letters_209 : decode cL_letters 209 = .ok (.iconst 2, 1) := by decide +kernel
theorem dL_letters_210 : decode cL_letters 210 = .ok (.istore 12, 2) := by decide +kernel
theorem dL_letters_212 : decode cL_letters 212 = .ok (.aload_n 0, 1) := by decide +kernel
theorem dL_letters_213 : decode cL_letters 213 = .ok (.iload_n 2, 1) := by decide +kernel
theorem dL_letters_214 : decode cL_letters 214 = .ok (.invokevirtual 66, 3) := by decide +kernel
theorem dL_letters_217 : decode cL_letters 217 = .ok (.iload 12, 2) := by decide +kernel
theorem dL_letters_219 : decode cL_letters 219 = .ok (.if_icmp .ne 25, 3) := by decide +kernel
theorem dL_letters_222 : decode cL_letters 222 = .ok (.aload_n 0, 1) := by decide +kernel
theorem dL_letters_223 : decode cL_letters 223 = .ok (.iload_n 2, 1) := by decide +kernel
theorem dL_letters_224 : decode cL_letters 224 = .ok (.invokevirtual 66, 3) := by decide +kernel
theorem dL_letters_227 : decode cL_letters 227 = .ok (.sipush (-10005), 3) := by decide +kernel
theorem dL_letters_230 : decode cL_letters 230 = .ok (.if_icmp .ne 14, 3) := by decide +kernel
theorem dL_letters_233 : decode cL_letters 233 = .ok (.aload_n 0, 1) := by decide +kernel
theorem dL_letters_234 : decode cL_letters 234 = .ok (.iload_n 2, 1) := by decide +kernel
theorem dL_letters_235 : decode cL_letters 235 = .ok (.invokevirtual 63, 3) := by decide +kernel
theorem dL_letters_238 : decode cL_letters 238 = .ok (.sipush (-10005), 3) := by decide +kernel
theorem dL_letters_241 : decode cL_letters 241 = .ok (.if_icmp .eq 5, 3) := by decide +kernel
theorem dL_letters_244 : decode cL_letters 244 = .ok (.iconst 0, 1) := by decide +kernel
theorem dL_letters_245 : decode cL_letters 245 = .ok (.ireturn, 1) := by decide +kernel
theorem dL_letters_246 : decode cL_letters 246 = .ok (.iconst 0, 1) := by decide +kernel
theorem dL_letters_247 : decode cL_letters 247 = .ok (.istore 13, 2) := by decide +kernel
theorem dL_letters_249 : decode cL_letters 249 = .ok (.iload 13, 2) := by decide +kernel
theorem dL_letters_251 : decode cL_letters 251 = .ok (.iload_n 3, 1) := by decide +kernel
theorem dL_letters_252 : decode cL_letters 252 = .ok (.if_icmp .ge 84, 3) := by decide +kernel
theorem dL_letters_255 : decode cL_letters 255 = .ok (.aload_n 0, 1) := by decide +kernel
theorem dL_letters_256 : decode cL_letters 256 = .ok (.iload_n 2, 1) := by decide +kernel
theorem dL_letters_257 : decode cL_letters 257 = .ok (.iconst 1, 1) := by decide +kernel
theorem dL_letters_258 : decode cL_letters 258 = .ok (.iload 13, 2) := by decide +kernel
theorem dL_letters_260 : decode cL_letters 260 = .ok (.invokevirtual 9, 3) := by decide +kernel
theorem dL_letters_263 : decode cL_letters 263 = .ok (.iload 12, 2) := by decide +kernel
theorem dL_letters_265 : decode cL_letters 265 = .ok (.iconst 1, 1) := by decide +kernel
theorem dL_letters_266 : decode cL_letters 266 = .ok (.if_icmp .ne 11, 3) := by decide +kernel
theorem dL_letters_269 : decode cL_letters 269 = .ok (.aload 5, 2) := by decide +kernel
theorem dL_letters_271 : decode cL_letters 271 = .ok (.iload 13, 2) := by decide +kernel
theorem dL_letters_273 : decode cL_letters 273 = .ok (.iaload, 1) := by decide +kernel
theorem dL_letters_274 : decode cL_letters 274 = .ok (.goto 8, 3) := by decide +kernel
theorem dL_letters_277 : decode cL_letters 277 = .ok (.aload 6, 2) := by decide +kernel
theorem dL_letters_279 : decode cL_letters 279 = .ok (.iload 13, 2) := by decide +kernel
theorem dL_letters_281 : decode cL_letters 281 = .ok (.iaload, 1) := by decide +kernel
theorem dL_letters_282 : decode cL_letters 282 = .ok (.if_icmp .ne 46, 3) := by decide +kernel
theorem dL_letters_285 : decode cL_letters 285 = .ok (.iload 12, 2) := by decide +kernel
theorem dL_letters_287 : decode cL_letters 287 = .ok (.iconst 2, 1) := by decide +kernel
theorem dL_letters_288 : decode cL_letters 288 = .ok (.if_icmp .ne 42, 3) := by decide +kernel
theorem dL_letters_291 : decode cL_letters 291 = .ok (.iload 11, 2) := by decide +kernel
theorem dL_letters_293 : decode cL_letters 293 = .ok (.ifCond .ne 37, 3) := by decide +kernel
theorem dL_letters_296 : decode cL_letters 296 = .ok (.aload_n 0, 1) := by decide +kernel
theorem dL_letters_297 : decode cL_letters 297 = .ok (.iload_n 2, 1) := by decide +kernel
theorem dL_letters_298 : decode cL_letters 298 = .ok (.iconst 2, 1) := by decide +kernel
theorem dL_letters_299 : decode cL_letters 299 = .ok (.iload 13, 2) := by decide +kernel
theorem dL_letters_301 : decode cL_letters 301 = .ok (.invokevirtual 9, 3) := by decide +kernel
theorem dL_letters_304 : decode cL_letters 304 = .ok (.aload 6, 2) := by decide +kernel
theorem dL_letters_306 : decode cL_letters 306 = .ok (.iload 13, 2) := by decide +kernel
theorem dL_letters_308 : decode cL_letters 308 = .ok (.iaload, 1) := by decide +kernel
theorem dL_letters_309 : decode cL_letters 309 = .ok (.if_icmp .ne 19, 3) := by decide +kernel
theorem dL_letters_312 : decode cL_letters 312 = .ok (.aload_n 0, 1) := by decide +kernel
theorem dL_letters_313 : decode cL_letters 313 = .ok (.iload_n 2, 1) := by decide +kernel
theorem dL_letters_314 : decode cL_letters 314 = .ok (.iconst 3, 1) := by decide +kernel
theorem dL_letters_315 : decode cL_letters 315 = .ok (.iload 13, 2) := by decide +kernel
theorem dL_letters_317 : decode cL_letters 317 = .ok (.invokevirtual 9, 3) := by decide +kernel
theorem dL_letters_320 : decode cL_letters 320 = .ok (.aload 5, 2) := by decide +kernel
theorem dL_letters_322 : decode cL_letters 322 = .ok (.iload 13, 2) := by decide +kernel
theorem dL_letters_324 : decode cL_letters 324 = .ok (.iaload, 1) := by decide +kernel
theorem dL_letters_325 : decode cL_letters 325 = .ok (.if_icmp .eq 5, 3) := by decide +kernel
theorem dL_letters_328 : decode cL_letters 328 = .ok (.iconst 0, 1) := by decide +kernel
theorem dL_letters_329 : decode cL_letters 329 = .ok (.ireturn, 1) := by decide +kernel
theorem dL_letters_330 : decode cL_letters 330 = .ok (.iinc 13 1, 3) := by decide +kernel
theorem dL_letters_333 : decode cL_letters 333 = .ok (.goto (-84), 3) := by decide +kernel
theorem dL_letters_336 : decode cL_letters 336 = .ok (.aload_n 0, 1) := by decide +kernel
theorem dL_letters_337 : decode cL_letters 337 = .ok (.iload_n 2, 1) := by decide +kernel
theorem dL_letters_338 : decode cL_letters 338 = .ok (.iconst 1, 1) := by decide +kernel
theorem dL_letters_339 : decode cL_letters 339 = .ok (.invokevirtual 18, 3) := by decide +kernel
theorem dL_letters_342 : decode cL_letters 342 = .ok (.iload 12, 2) := by decide +kernel
theorem dL_letters_344 : decode cL_letters 344 = .ok (.iconst 2, 1) := by decide +kernel
theorem dL_letters_345 : decode cL_letters 345 = .ok (.if_icmp .ne 12, 3) := by decide +kernel
theorem dL_letters_348 : decode cL_letters 348 = .ok (.iload 10, 2) := by decide +kernel
theorem dL_letters_350 : decode cL_letters 350 = .ok (.ifCond .ne 7, 3) := by decide +kernel
theorem dL_letters_353 : decode cL_letters 353 = .ok (.iconst 4, 1) := by decide +kernel
theorem dL_letters_354 : decode cL_letters 354 = .ok (.goto 5, 3) := by decide +kernel
theorem dL_letters_357 : decode cL_letters 357 = .ok (.iload 10, 2) := by decide +kernel
theorem dL_letters_359 : decode cL_letters 359 = .ok (.if_icmp .ne 41, 3) := by decide +kernel
theorem dL_letters_362 : decode cL_letters 362 = .ok (.aload_n 0, 1) := by decide +kernel
theorem dL_letters_363 : decode cL_letters 363 = .ok (.iload_n 2, 1) := by decide +kernel
theorem dL_letters_364 : decode cL_letters 364 = .ok (.iconst 2, 1) := by decide +kernel
theorem dL_letters_365 : decode cL_letters 365 = .ok (.invokevirtual 18, 3) := by decide +kernel
theorem dL_letters_368 : decode cL_letters 368 = .ok (.iconst 1, 1) := by decide +kernel
theorem dL_letters_369 : decode cL_letters 369 = .ok (.if_icmp .ne 7, 3) := by decide +kernel
theorem dL_letters_372 : decode cL_letters 372 = .ok (.iconst 1, 1) := by decide +kernel
theorem dL_letters_373 : decode cL_letters 373 = .ok (.goto 4, 3) := by decide +kernel
theorem dL_letters_376 : decode cL_letters 376 = .ok (.iconst 0, 1) := by decide +kernel
theorem dL_letters_377 : decode cL_letters 377 = .ok (.iload 11, 2) := by decide +kernel
theorem dL_letters_379 : decode cL_letters 379 = .ok (.ifCond .ne 9, 3) := by decide +kernel
theorem dL_letters_382 : decode cL_letters 382 = .ok (.iload 12, 2) := by decide +kernel
theorem dL_letters_384 : decode cL_letters 384 = .ok (.iconst 2, 1) := by decide +kernel
theorem dL_letters_385 : decode cL_letters 385 = .ok (.if_icmp .ne 7, 3) := by decide +kernel
theorem dL_letters_388 : decode cL_letters 388 = .ok (.iconst 1, 1) := by decide +kernel
theorem dL_letters_389 : decode cL_letters 389 = .ok (.goto 4, 3) := by decide +kernel
theorem dL_letters_392 : decode cL_letters 392 = .ok (.iconst 0, 1) := by decide +kernel
theorem dL_letters_393 : decode cL_letters 393 = .ok (.if_icmp .ne 7, 3) := by decide +kernel
theorem dL_letters_396 : decode cL_letters 396 = .ok (.iconst 1, 1) := by decide +kernel
theorem dL_letters_397 : decode cL_letters 397 = .ok (.goto 4, 3) := by decide +kernel
theorem dL_letters_400 : decode cL_letters 400 = .ok (.iconst 0, 1) := by decide +kernel
theorem dL_letters_401 : decode cL_letters 401 = .ok (.ireturn, 1) := by decide +kernel
theorem dL_stores_0 : decode cL_stores 0 = .ok (.aload_n 0, 1) := by decide +kernel
theorem dL_stores_1 : decode cL_stores 1 = .ok (.iconst 1, 1) := by decide +kernel
theorem dL_stores_2 : decode cL_stores 2 = .ok (.invokevirtual 40, 3) := by decide +kernel
theorem dL_stores_5 : decode cL_stores 5 = .ok (.istore 4, 2) := by decide +kernel
theorem dL_stores_7 : decode cL_stores 7 = .ok (.iload_n 2, 1) := by decide +kernel
theorem dL_stores_8 : decode cL_stores 8 = .ok (.iload 4, 2) := by decide +kernel
theorem dL_stores_10 : decode cL_stores 10 = .ok (.invokestatic 46, 3) := by decide +kernel
theorem dL_stores_13 : decode cL_stores 13 = .ok (.istore 5, 2) := by decide +kernel
theorem dL_stores_15 : decode cL_stores 15 = .ok (.bipush 36, 2) := by decide +kernel
theorem dL_stores_17 : decode cL_stores 17 = .ok (.newarray .int, 2) := by decide +kernel
theorem dL_stores_19 : decode cL_stores 19 = .ok (.astore 6, 2) := by decide +kernel
theorem dL_stores_21 : decode cL_stores 21 = .ok (.iconst 0, 1) := by decide +kernel
theorem dL_stores_22 : decode cL_stores 22 = .ok (.istore 7, 2) := by decide +kernel
theorem dL_stores_24 : decode cL_stores 24 = .ok (.iload 7, 2) := by decide +kernel
theorem dL_stores_26 : decode cL_stores 26 = .ok (.iload_n 1, 1) := by decide +kernel
theorem dL_stores_27 : decode cL_stores 27 = .ok (.iload_n 1, 1) := by decide +kernel
theorem dL_stores_28 : decode cL_stores 28 = .ok (.imul, 1) := by decide +kernel
theorem dL_stores_29 : decode cL_stores 29 = .ok (.if_icmp .ge 28, 3) := by decide +kernel
theorem dL_stores_32 : decode cL_stores 32 = .ok (.aload 6, 2) := by decide +kernel
theorem dL_stores_34 : decode cL_stores 34 = .ok (.iload 7, 2) := by decide +kernel
theorem dL_stores_36 : decode cL_stores 36 = .ok (.aload_n 0, 1) := by decide +kernel
theorem dL_stores_37 : decode cL_stores 37 = .ok (.iload 5, 2) := by decide +kernel
theorem dL_stores_39 : decode cL_stores 39 = .ok (.iload 7, 2) := by decide +kernel
theorem dL_stores_41 : decode cL_stores 41 = .ok (.iload_n 1, 1) := by decide +kernel
theorem dL_stores_42 : decode cL_stores 42 = .ok (.idiv, 1) := by decide +kernel
theorem dL_stores_43 : decode cL_stores 43 = .ok (.iload 7, 2) := by decide +kernel
theorem dL_stores_45 : decode cL_stores 45 = .ok (.iload_n 1, 1) := by decide +kernel
theorem dL_stores_46 : decode cL_stores 46 = .ok (.irem, 1) := by decide +kernel
theorem dL_stores_47 : decode cL_stores 47 = .ok (.invokevirtual 15, 3) := by decide +kernel
theorem dL_stores_50 : decode cL_stores 50 = .ok (.iastore, 1) := by decide +kernel
theorem dL_stores_51 : decode cL_stores 51 = .ok (.iinc 7 1, 3) := by decide +kernel
theorem dL_stores_54 : decode cL_stores 54 = .ok (.goto (-30), 3) := by decide +kernel
theorem dL_stores_57 : decode cL_stores 57 = .ok (.aload_n 0, 1) := by decide +kernel
theorem dL_stores_58 : decode cL_stores 58 = .ok (.iload 5, 2) := by decide +kernel
theorem dL_stores_60 : decode cL_stores 60 = .ok (.iconst 0, 1) := by decide +kernel
theorem dL_stores_61 : decode cL_stores 61 = .ok (.invokevirtual 43, 3) := by decide +kernel
theorem dL_stores_64 : decode cL_stores 64 = .ok (.istore 7, 2) := by decide +kernel
theorem dL_stores_66 : decode cL_stores 66 = .ok (.aload_n 0, 1) := by decide +kernel
theorem dL_stores_67 : decode cL_stores 67 = .ok (.iload 5, 2) := by decide +kernel
theorem dL_stores_69 : decode cL_stores 69 = .ok (.iconst 1, 1) := by decide +kernel
theorem dL_stores_70 : decode cL_stores 70 = .ok (.invokevirtual 43, 3) := by decide +kernel
theorem dL_stores_73 : decode cL_stores 73 = .ok (.istore 8, 2) := by decide +kernel
theorem dL_stores_75 : decode cL_stores 75 = .ok (.iload_n 3, 1) := by decide +kernel
theorem dL_stores_76 : decode cL_stores 76 = .ok (.iconst 4, 1) := by decide +kernel
theorem dL_stores_77 : decode cL_stores 77 = .ok (.invokestatic 46, 3) := by decide +kernel
theorem dL_stores_80 : decode cL_stores 80 = .ok (.istore 9, 2) := by decide +kernel
theorem dL_stores_82 : decode cL_stores 82 = .ok (.iload 9, 2) := by decide +kernel
theorem dL_stores_84 : decode cL_stores 84 = .ok (.ifCond .ne 206, 3) := by decide +kernel
theorem dL_stores_87 : decode cL_stores 87 = .ok (.iload 7, 2) := by decide +kernel
theorem dL_stores_89 : decode cL_stores 89 = .ok (.iload_n 3, 1) := by decide +kernel
theorem dL_stores_90 : decode cL_stores 90 = .ok (.iconst 3, 1) := by decide +kernel
theorem dL_stores_91 : decode cL_stores 91 = .ok (.ishr, 1) := by decide +kernel
theorem dL_stores_92 : decode cL_stores 92 = .ok (.bipush 32, 2) := by decide +kernel
theorem dL_stores_94 : decode cL_stores 94 = .ok (.invokestatic 46, 3) := by decide +kernel
theorem dL_stores_97 : decode cL_stores 97 = .ok (.iand, 1) := by decide +kernel
theorem dL_stores_98 : decode cL_stores 98 = .ok (.istore 10, 2) := by decide +kernel
theorem dL_stores_100 : decode cL_stores 100 = .ok (.aload_n 0, 1) := by decide +kernel
theorem dL_stores_101 : decode cL_stores 101 = .ok (.iload 5, 2) := by decide +kernel
theorem dL_stores_103 : decode cL_stores 103 = .ok (.iload 10, 2) := by decide +kernel
theorem dL_stores_105 : decode cL_stores 105 = .ok (.invokevirtual 69, 3) := by decide +kernel
theorem dL_stores_108 : decode cL_stores 108 = .ok (.istore 11, 2) := by decide +kernel
theorem dL_stores_110 : decode cL_stores 110 = .ok (.iload 10, 2) := by decide +kernel
theorem dL_stores_112 : decode cL_stores 112 = .ok (.ifCond .eq 10, 3) := by decide +kernel
theorem dL_stores_115 : decode cL_stores 115 = .ok (.iload 4, 2) := by decide +kernel
theorem dL_stores_117 : decode cL_stores 117 = .ok (.bipush 6, 2) := by decide +kernel
theorem dL_stores_119 : decode cL_stores 119 = .ok (.if_icmp .ne 28, 3) := by decide +kernel
theorem dL_stores_122 : decode cL_stores 122 = .ok (.iload 11, 2) := by decide +kernel
theorem dL_stores_124 : decode cL_stores 124 = .ok (.iload 10, 2) := by decide +kernel
theorem dL_stores_126 : decode cL_stores 126 = .ok (.ifCond .ne 9, 3) := by decide +kernel
theorem dL_stores_129 : decode cL_stores 129 = .ok (.sipush (-10002), 3) := by decide +kernel
theorem dL_stores_132 : decode cL_stores 132 = .ok (.goto 6, 3) := by decide +kernel
theorem dL_stores_135 : decode cL_stores 135 = .ok (.sipush (-10004), 3) := by decide +kernel
theorem dL_stores_138 : decode cL_stores 138 = .ok (.if_icmp .ne 7, 3) := by decide +kernel
theorem dL_stores_141 : decode cL_stores 141 = .ok (.iconst 1, 1) := by decide +kernel
theorem dL_stores_142 : decode cL_stores 142 = .ok (.goto 4, 3) := by decide +kernel
theorem dL_stores_145 : decode cL_stores 145 = .ok (.iconst 0, 1) := by decide +kernel
theorem dL_stores_146 : decode cL_stores 146 = .ok (.ireturn, 1) := by decide +kernel
theorem dL_stores_147 : decode cL_stores 147 = .ok (.iconst 0, 1) := by decide +kernel
theorem dL_stores_148 : decode cL_stores 148 = .ok (.istore 12, 2) := by decide +kernel
theorem dL_stores_150 : decode cL_stores 150 = .ok (.iload 12, 2) := by decide +kernel
theorem dL_stores_152 : decode cL_stores 152 = .ok (.iload_n 1, 1) := by decide +kernel
theorem dL_stores_153 : decode cL_stores 153 = .ok (.iload_n 1, 1) := by decide +kernel
theorem dL_stores_154 : decode cL_stores 154 = .ok (.imul, 1) := by decide +kernel
theorem dL_stores_155 : decode cL_stores 155 = .ok (.if_icmp .ge 56, 3) := by decide +kernel
theorem dL_stores_158 : decode cL_stores 158 = .ok (.aload_n 0, 1) := by decide +kernel
theorem dL_stores_159 : decode cL_stores 159 = .ok (.iload 11, 2) := by decide +kernel
theorem dL_stores_161 : decode cL_stores 161 = .ok (.iload 12, 2) := by decide +kernel
theorem dL_stores_163 : decode cL_stores 163 = .ok (.iload_n 1, 1) := by decide +kernel
theorem dL_stores_164 : decode cL_stores 164 = .ok (.idiv, 1) := by decide +kernel
theorem dL_stores_165 : decode cL_stores 165 = .ok (.iload 12, 2) := by decide +kernel
theorem dL_stores_167 : decode cL_stores 167 = .ok (.iload_n 1, 1) := by decide +kernel
theorem dL_stores_168 : decode cL_stores 168 = .ok (.irem, 1) := by decide +kernel
theorem dL_stores_169 : decode cL_stores 169 = .ok (.invokevirtual 15, 3) := by decide +kernel
theorem dL_stores_172 : decode cL_stores 172 = .ok (.aload 6, 2) := by decide +kernel
theorem dL_stores_174 : decode cL_stores 174 = .ok (.iload 12, 2) := by decide +kernel
theorem dL_stores_176 : decode cL_stores 176 = .ok (.iaload, 1) := by decide +kernel
theorem dL_stores_177 : decode cL_stores 177 = .ok (.if_icmp .ne 26, 3) := by decide +kernel
theorem dL_stores_180 : decode cL_stores 180 = .ok (.aload_n 0, 1) := by decide +kernel
theorem dL_stores_181 : decode cL_stores 181 = .ok (.iload 11, 2) := by decide +kernel
theorem dL_stores_183 : decode cL_stores 183 = .ok (.iload 12, 2) := by decide +kernel
theorem dL_stores_185 : decode cL_stores 185 = .ok (.iload_n 1, 1) := by decide +kernel
theorem dL_stores_186 : decode cL_stores 186 = .ok (.irem, 1) := by decide +kernel
theorem dL_stores_187 : decode cL_stores 187 = .ok (.invokevirtual 49, 3) := by decide +kernel
theorem dL_stores_190 : decode cL_stores 190 = .ok (.aload_n 0, 1) := by decide +kernel
theorem dL_stores_191 : decode cL_stores 191 = .ok (.iload 5, 2) := by decide +kernel
theorem dL_stores_193 : decode cL_stores 193 = .ok (.iload 12, 2) := by decide +kernel
theorem dL_stores_195 : decode cL_stores 195 = .ok (.iload_n 1, 1) := by decide +kernel
theorem dL_stores_196 : decode cL_stores 196 = .ok (.irem, 1) := by decide +kernel
theorem dL_stores_197 : decode cL_stores 197 = .ok (.invokevirtual 49, 3) := by decide +kernel
theorem dL_stores_200 : decode cL_stores 200 = .ok (.if_icmp .eq 5, 3) := by decide +kernel
theorem dL_stores_203 : decode cL_stores 203 = .ok (.iconst 0, 1) := by decide +kernel
theorem dL_stores_204 : decode cL_stores 204 = .ok (.ireturn, 1) := by decide +kernel
theorem dL_stores_205 : decode cL_stores 205 = .ok (.iinc 12 1, 3) := by decide +kernel
theorem dL_stores_208 : decode cL_stores 208 = .ok (.goto (-58), 3) := by decide +kernel
theorem dL_stores_211 : decode cL_stores 211 = .ok (.iload 11, 2) := by decide +kernel
theorem dL_stores_213 : decode cL_stores 213 = .ok (.iload 4, 2) := by decide +kernel
theorem dL_stores_215 : decode cL_stores 215 = .ok (.if_icmp .ne 73, 3) := by decide +kernel
theorem dL_stores_218 : decode cL_stores 218 = .ok (.aload_n 0, 1) := by decide +kernel
theorem dL_stores_219 : decode cL_stores 219 = .ok (.iconst 1, 1) := by decide +kernel
theorem dL_stores_220 : decode cL_stores 220 = .ok (.invokevirtual 40, 3) := by decide +kernel
theorem dL_stores_223 : decode cL_stores 223 = .ok (.iload 4, 2) := by decide +kernel
theorem dL_stores_225 : decode cL_stores 225 = .ok (.iconst 1, 1) := by decide +kernel
theorem dL_stores_226 : decode cL_stores 226 = .ok (.iadd, 1) := by decide +kernel
theorem dL_stores_227 : decode cL_stores 227 = .ok (.if_icmp .ne 61, 3) := by decide +kernel
theorem dL_stores_230 : decode cL_stores 230 = .ok (.aload_n 0, 1) := by decide +kernel
theorem dL_stores_231 : decode cL_stores 231 = .ok (.iload 11, 2) := by decide +kernel
theorem dL_stores_233 : decode cL_stores 233 = .ok (.iconst 0, 1) := by decide +kernel
theorem dL_stores_234 : decode cL_stores 234 = .ok (.invokevirtual 43, 3) := by decide +kernel
theorem dL_stores_237 : decode cL_stores 237 = .ok (.iload 10, 2) := by decide +kernel
theorem dL_stores_239 : decode cL_stores 239 = .ok (.if_icmp .ne 49, 3) := by decide +kernel
theorem dL_stores_242 : decode cL_stores 242 = .ok (.aload_n 0, 1) := by decide +kernel
theorem dL_stores_243 : decode cL_stores 243 = .ok (.iload 5, 2) := by decide +kernel
theorem dL_stores_245 : decode cL_stores 245 = .ok (.iconst 0, 1) := by decide +kernel
theorem dL_stores_246 : decode cL_stores 246 = .ok (.invokevirtual 43, 3) := by decide +kernel
theorem dL_stores_249 : decode cL_stores 249 = .ok (.iload 7, 2) := by decide +kernel
theorem dL_stores_251 : decode cL_stores 251 = .ok (.iload 10, 2) := by decide +kernel
theorem dL_stores_253 : decode cL_stores 253 = .ok (.isub, 1) := by decide +kernel
theorem dL_stores_254 : decode cL_stores 254 = .ok (.if_icmp .ne 34, 3) := by decide +kernel
theorem dL_stores_257 : decode cL_stores 257 = .ok (.aload_n 0, 1) := by decide +kernel
theorem dL_stores_258 : decode cL_stores 258 = .ok (.iload 11, 2) := by decide +kernel
theorem dL_stores_260 : decode cL_stores 260 = .ok (.iconst 1, 1) := by decide +kernel
theorem dL_stores_261 : decode cL_stores 261 = .ok (.invokevirtual 43, 3) := by decide +kernel
theorem dL_stores_264 : decode cL_stores 264 = .ok (.iload 8, 2) := by decide +kernel
theorem dL_stores_266 : decode cL_stores 266 = .ok (.if_icmp .ne 22, 3) := by decide +kernel
theorem dL_stores_269 : decode cL_stores 269 = .ok (.aload_n 0, 1) := by decide +kernel
theorem dL_stores_270 : decode cL_stores 270 = .ok (.iload 4, 2) := by decide +kernel
theorem dL_stores_272 : decode cL_stores 272 = .ok (.iconst 1, 1) := by decide +kernel
theorem dL_stores_273 : decode cL_stores 273 = .ok (.iadd, 1) := by decide +kernel
theorem dL_stores_274 : decode cL_stores 274 = .ok (.iconst 1, 1) := by decide +kernel
theorem dL_stores_275 : decode cL_stores 275 = .ok (.invokevirtual 69, 3) := by decide +kernel
theorem dL_stores_278 : decode cL_stores 278 = .ok (.sipush (-10001), 3) := by decide +kernel
theorem dL_stores_281 : decode cL_stores 281 = .ok (.if_icmp .ne 7, 3) := by decide +kernel
theorem dL_stores_284 : decode cL_stores 284 = .ok (.iconst 1, 1) := by decide +kernel
theorem dL_stores_285 : decode cL_stores 285 = .ok (.goto 4, 3) := by decide +kernel
theorem dL_stores_288 : decode cL_stores 288 = .ok (.iconst 0, 1) := by decide +kernel
theorem dL_stores_289 : decode cL_stores 289 = .ok (.ireturn, 1) := by decide +kernel
theorem dL_stores_290 : decode cL_stores 290 = .ok (.iload 9, 2) := by decide +kernel
theorem dL_stores_292 : decode cL_stores 292 = .ok (.iconst 1, 1) := by decide +kernel
theorem dL_stores_293 : decode cL_stores 293 = .ok (.if_icmp .ne 78, 3) := by decide +kernel
theorem dL_stores_296 : decode cL_stores 296 = .ok (.iload_n 3, 1) := by decide +kernel
theorem dL_stores_297 : decode cL_stores 297 = .ok (.iconst 3, 1) := by decide +kernel
theorem dL_stores_298 : decode cL_stores 298 = .ok (.ishr, 1) := by decide +kernel
theorem dL_stores_299 : decode cL_stores 299 = .ok (.iload_n 1, 1) := by decide +kernel
theorem dL_stores_300 : decode cL_stores 300 = .ok (.invokestatic 46, 3) := by decide +kernel
theorem dL_stores_303 : decode cL_stores 303 = .ok (.istore 10, 2) := by decide +kernel
theorem dL_stores_305 : decode cL_stores 305 = .ok (.aload_n 0, 1) := by decide +kernel
theorem dL_stores_306 : decode cL_stores 306 = .ok (.iload 10, 2) := by decide +kernel
theorem dL_stores_308 : decode cL_stores 308 = .ok (.iconst 0, 1) := by decide +kernel
theorem dL_stores_309 : decode cL_stores 309 = .ok (.invokevirtual 18, 3) := by decide +kernel
theorem dL_stores_312 : decode cL_stores 312 = .ok (.istore 11, 2) := by decide +kernel
theorem dL_stores_314 : decode cL_stores 314 = .ok (.aload_n 0, 1) := by decide +kernel
theorem dL_stores_315 : decode cL_stores 315 = .ok (.iload 10, 2) := by decide +kernel
theorem dL_stores_317 : decode cL_stores 317 = .ok (.iload 5, 2) := by decide +kernel
theorem dL_stores_319 : decode cL_stores 319 = .ok (.invokevirtual 72, 3) := by decide +kernel
theorem dL_stores_322 : decode cL_stores 322 = .ok (.iload 11, 2) := by decide +kernel
theorem dL_stores_324 : decode cL_stores 324 = .ok (.if_icmp .ne 45, 3) := by decide +kernel
theorem dL_stores_327 : decode cL_stores 327 = .ok (.aload_n 0, 1) := by decide +kernel
theorem dL_stores_328 : decode cL_stores 328 = .ok (.iload 10, 2) := by decide +kernel
theorem dL_stores_330 : decode cL_stores 330 = .ok (.iconst 0, 1) := by decide +kernel
theorem dL_stores_331 : decode cL_stores 331 = .ok (.invokevirtual 18, 3) := by decide +kernel
theorem dL_stores_334 : decode cL_stores 334 = .ok (.iload 5, 2) := by decide +kernel
theorem dL_stores_336 : decode cL_stores 336 = .ok (.if_icmp .ne 33, 3) := by decide +kernel
theorem dL_stores_339 : decode cL_stores 339 = .ok (.aload_n 0, 1) := by decide +kernel
theorem dL_stores_340 : decode cL_stores 340 = .ok (.iload 10, 2) := by decide +kernel
theorem dL_stores_342 : decode cL_stores 342 = .ok (.iload 4, 2) := by decide +kernel
theorem dL_stores_344 : decode cL_stores 344 = .ok (.invokevirtual 72, 3) := by decide +kernel
theorem dL_stores_347 : decode cL_stores 347 = .ok (.sipush (-10001), 3) := by decide +kernel
theorem dL_stores_350 : decode cL_stores 350 = .ok (.if_icmp .ne 19, 3) := by decide +kernel
theorem dL_stores_353 : decode cL_stores 353 = .ok (.aload_n 0, 1) := by decide +kernel
theorem dL_stores_354 : decode cL_stores 354 = .ok (.iload_n 1, 1) := by decide +kernel
theorem dL_stores_355 : decode cL_stores 355 = .ok (.iconst 0, 1) := by decide +kernel
theorem dL_stores_356 : decode cL_stores 356 = .ok (.invokevirtual 72, 3) := by decide +kernel
theorem dL_stores_359 : decode cL_stores 359 = .ok (.sipush (-10001), 3) := by decide +kernel
theorem dL_stores_362 : decode cL_stores 362 = .ok (.if_icmp .ne 7, 3) := by decide +kernel
theorem dL_stores_365 : decode cL_stores 365 = .ok (.iconst 1, 1) := by decide +kernel
theorem dL_stores_366 : decode cL_stores 366 = .ok (.goto 4, 3) := by decide +kernel
theorem dL_stores_369 : decode cL_stores 369 = .ok (.iconst 0, 1) := by decide +kernel
theorem dL_stores_370 : decode cL_stores 370 = .ok (.ireturn, 1) := by decide +kernel
theorem dL_stores_371 : decode cL_stores 371 = .ok (.iload 9, 2) := by decide +kernel
theorem dL_stores_373 : decode cL_stores 373 = .ok (.iconst 2, 1) := by decide +kernel
theorem dL_stores_374 : decode cL_stores 374 = .ok (.if_icmp .ne 109, 3) := by decide +kernel
theorem dL_stores_377 : decode cL_stores 377 = .ok (.iconst 1, 1) := by decide +kernel
theorem dL_stores_378 : decode cL_stores 378 = .ok (.iload_n 3, 1) := by decide +kernel
theorem dL_stores_379 : decode cL_stores 379 = .ok (.iconst 3, 1) := by decide +kernel
theorem dL_stores_380 : decode cL_stores 380 = .ok (.ishr, 1) := by decide +kernel
theorem dL_stores_381 : decode cL_stores 381 = .ok (.iconst 5, 1) := by decide +kernel
theorem dL_stores_382 : decode cL_stores 382 = .ok (.invokestatic 46, 3) := by decide +kernel
theorem dL_stores_385 : decode cL_stores 385 = .ok (.iadd, 1) := by decide +kernel
theorem dL_stores_386 : decode cL_stores 386 = .ok (.istore 10, 2) := by decide +kernel
theorem dL_stores_388 : decode cL_stores 388 = .ok (.aload_n 0, 1) := by decide +kernel
theorem dL_stores_389 : decode cL_stores 389 = .ok (.iload 5, 2) := by decide +kernel
theorem dL_stores_391 : decode cL_stores 391 = .ok (.iload 10, 2) := by decide +kernel
theorem dL_stores_393 : decode cL_stores 393 = .ok (.invokevirtual 75, 3) := by decide +kernel
theorem dL_stores_396 : decode cL_stores 396 = .ok (.istore 11, 2) := by decide +kernel
theorem dL_stores_398 : decode cL_stores 398 = .ok (.iload 8, 2) := by decide +kernel
theorem dL_stores_400 : decode cL_stores 400 = .ok (.iload 10, 2) := by decide +kernel
theorem dL_stores_402 : decode cL_stores 402 = .ok (.if_icmp .ge 26, 3) := by decide +kernel
theorem dL_stores_405 : decode cL_stores 405 = .ok (.iload 11, 2) := by decide +kernel
theorem dL_stores_407 : decode cL_stores 407 = .ok (.sipush (-10005), 3) := by decide +kernel
theorem dL_stores_410 : decode cL_stores 410 = .ok (.if_icmp .ne 71, 3) := by decide +kernel
theorem dL_stores_413 : decode cL_stores 413 = .ok (.aload_n 0, 1) := by decide +kernel
theorem dL_stores_414 : decode cL_stores 414 = .ok (.iload 5, 2) := by decide +kernel
theorem dL_stores_416 : decode cL_stores 416 = .ok (.iconst 1, 1) := by decide +kernel
theorem dL_stores_417 : decode cL_stores 417 = .ok (.invokevirtual 43, 3) := by decide +kernel
theorem dL_stores_420 : decode cL_stores 420 = .ok (.iload 8, 2) := by decide +kernel
theorem dL_stores_422 : decode cL_stores 422 = .ok (.if_icmp .ne 59, 3) := by decide +kernel
theorem dL_stores_425 : decode cL_stores 425 = .ok (.goto 25, 3) := by decide +kernel
theorem dL_stores_428 : decode cL_stores 428 = .ok (.iload 11, 2) := by decide +kernel
theorem dL_stores_430 : decode cL_stores 430 = .ok (.iload 8, 2) := by decide +kernel
theorem dL_stores_432 : decode cL_stores 432 = .ok (.iload 10, 2) := by decide +kernel
theorem dL_stores_434 : decode cL_stores 434 = .ok (.isub, 1) := by decide +kernel
theorem dL_stores_435 : decode cL_stores 435 = .ok (.if_icmp .ne 46, 3) := by decide +kernel
theorem dL_stores_438 : decode cL_stores 438 = .ok (.aload_n 0, 1) := by decide +kernel
theorem dL_stores_439 : decode cL_stores 439 = .ok (.iload 5, 2) := by decide +kernel
theorem dL_stores_441 : decode cL_stores 441 = .ok (.iconst 1, 1) := by decide +kernel
theorem dL_stores_442 : decode cL_stores 442 = .ok (.invokevirtual 43, 3) := by decide +kernel
theorem dL_stores_445 : decode cL_stores 445 = .ok (.iload 11, 2) := by decide +kernel
theorem dL_stores_447 : decode cL_stores 447 = .ok (.if_icmp .ne 34, 3) := by decide +kernel
theorem dL_stores_450 : decode cL_stores 450 = .ok (.aload_n 0, 1) := by decide +kernel
theorem dL_stores_451 : decode cL_stores 451 = .ok (.iload 5, 2) := by decide +kernel
theorem dL_stores_453 : decode cL_stores 453 = .ok (.bipush 6, 2) := by decide +kernel
theorem dL_stores_455 : decode cL_stores 455 = .ok (.invokevirtual 75, 3) := by decide +kernel
theorem dL_stores_458 : decode cL_stores 458 = .ok (.sipush (-10002), 3) := by decide +kernel
theorem dL_stores_461 : decode cL_stores 461 = .ok (.if_icmp .ne 20, 3) := by decide +kernel
theorem dL_stores_464 : decode cL_stores 464 = .ok (.aload_n 0, 1) := by decide +kernel
theorem dL_stores_465 : decode cL_stores 465 = .ok (.iload 4, 2) := by decide +kernel
theorem dL_stores_467 : decode cL_stores 467 = .ok (.iconst 1, 1) := by decide +kernel
theorem dL_stores_468 : decode cL_stores 468 = .ok (.invokevirtual 75, 3) := by decide +kernel
theorem dL_stores_471 : decode cL_stores 471 = .ok (.sipush (-10001), 3) := by decide +kernel
theorem dL_stores_474 : decode cL_stores 474 = .ok (.if_icmp .ne 7, 3) := by decide +kernel
theorem dL_stores_477 : decode cL_stores 477 = .ok (.iconst 1, 1) := by decide +kernel
theorem dL_stores_478 : decode cL_stores 478 = .ok (.goto 4, 3) := by decide +kernel
theorem dL_stores_481 : decode cL_stores 481 = .ok (.iconst 0, 1) := by decide +kernel
theorem dL_stores_482 : decode cL_stores 482 = .ok (.ireturn, 1) := by decide +kernel
theorem dL_stores_483 : decode cL_stores 483 = .ok (.iload_n 3, 1) := by decide +kernel
theorem dL_stores_484 : decode cL_stores 484 = .ok (.iconst 3, 1) := by decide +kernel
theorem dL_stores_485 : decode cL_stores 485 = .ok (.ishr, 1) := by decide +kernel
theorem dL_stores_486 : decode cL_stores 486 = .ok (.iload 4, 2) := by decide +kernel
theorem dL_stores_488 : decode cL_stores 488 = .ok (.invokestatic 46, 3) := by decide +kernel
theorem dL_stores_491 : decode cL_stores 491 = .ok (.istore 10, 2) := by decide +kernel
theorem dL_stores_493 : decode cL_stores 493 = .ok (.iload 10, 2) := by decide +kernel
theorem dL_stores_495 : decode cL_stores 495 = .ok (.iload 5, 2) := by decide +kernel
theorem dL_stores_497 : decode cL_stores 497 = .ok (.if_icmp .ne 23, 3) := by decide +kernel
theorem dL_stores_500 : decode cL_stores 500 = .ok (.aload_n 0, 1) := by decide +kernel
theorem dL_stores_501 : decode cL_stores 501 = .ok (.iload 5, 2) := by decide +kernel
theorem dL_stores_503 : decode cL_stores 503 = .ok (.iload 10, 2) := by decide +kernel
theorem dL_stores_505 : decode cL_stores 505 = .ok (.invokevirtual 78, 3) := by decide +kernel
theorem dL_stores_508 : decode cL_stores 508 = .ok (.sipush (-10002), 3) := by decide +kernel
theorem dL_stores_511 : decode cL_stores 511 = .ok (.if_icmp .ne 7, 3) := by decide +kernel
theorem dL_stores_514 : decode cL_stores 514 = .ok (.iconst 1, 1) := by decide +kernel
theorem dL_stores_515 : decode cL_stores 515 = .ok (.goto 4, 3) := by decide +kernel
theorem dL_stores_518 : decode cL_stores 518 = .ok (.iconst 0, 1) := by decide +kernel
theorem dL_stores_519 : decode cL_stores 519 = .ok (.ireturn, 1) := by decide +kernel
theorem dL_stores_520 : decode cL_stores 520 = .ok (.iconst 0, 1) := by decide +kernel
theorem dL_stores_521 : decode cL_stores 521 = .ok (.istore 11, 2) := by decide +kernel
theorem dL_stores_523 : decode cL_stores 523 = .ok (.iconst 0, 1) := by decide +kernel
theorem dL_stores_524 : decode cL_stores 524 = .ok (.istore 12, 2) := by decide +kernel
theorem dL_stores_526 : decode cL_stores 526 = .ok (.iload 12, 2) := by decide +kernel
theorem dL_stores_528 : decode cL_stores 528 = .ok (.iload_n 1, 1) := by decide +kernel
theorem dL_stores_529 : decode cL_stores 529 = .ok (.if_icmp .ge 42, 3) := by decide +kernel
theorem dL_stores_532 : decode cL_stores 532 = .ok (.iload 11, 2) := by decide +kernel
theorem dL_stores_534 : decode cL_stores 534 = .ok (.aload_n 0, 1) := by decide +kernel
theorem dL_stores_535 : decode cL_stores 535 = .ok (.iload 10, 2) := by decide +kernel
theorem dL_stores_537 : decode cL_stores 537 = .ok (.iload 12, 2) := by decide +kernel
theorem dL_stores_539 : decode cL_stores 539 = .ok (.iload 12, 2) := by decide +kernel
theorem dL_stores_541 : decode cL_stores 541 = .ok (.invokevirtual 15, 3) := by decide +kernel
theorem dL_stores_544 : decode cL_stores 544 = .ok (.aload_n 0, 1) := by decide +kernel
theorem dL_stores_545 : decode cL_stores 545 = .ok (.iload 5, 2) := by decide +kernel
theorem dL_stores_547 : decode cL_stores 547 = .ok (.iload 12, 2) := by decide +kernel
theorem dL_stores_549 : decode cL_stores 549 = .ok (.iload 12, 2) := by decide +kernel
theorem dL_stores_551 : decode cL_stores 551 = .ok (.invokevirtual 15, 3) := by decide +kernel
theorem dL_stores_554 : decode cL_stores 554 = .ok (.if_icmp .le 7, 3) := by decide +kernel
theorem dL_stores_557 : decode cL_stores 557 = .ok (.iconst 1, 1) := by decide +kernel
theorem dL_stores_558 : decode cL_stores 558 = .ok (.goto 4, 3) := by decide +kernel
theorem dL_stores_561 : decode cL_stores 561 = .ok (.iconst 0, 1) := by decide +kernel
theorem dL_stores_562 : decode cL_stores 562 = .ok (.iadd, 1) := by decide +kernel
theorem dL_stores_563 : decode cL_stores 563 = .ok (.istore 11, 2) := by decide +kernel
theorem dL_stores_565 : decode cL_stores 565 = .ok (.iinc 12 1, 3) := by decide +kernel
theorem dL_stores_568 : decode cL_stores 568 = .ok (.goto (-42), 3) := by decide +kernel
theorem dL_stores_571 : decode cL_stores 571 = .ok (.aload_n 0, 1) := by decide +kernel
theorem dL_stores_572 : decode cL_stores 572 = .ok (.iload 10, 2) := by decide +kernel
theorem dL_stores_574 : decode cL_stores 574 = .ok (.iconst 0, 1) := by decide +kernel
theorem dL_stores_575 : decode cL_stores 575 = .ok (.invokevirtual 43, 3) := by decide +kernel
theorem dL_stores_578 : decode cL_stores 578 = .ok (.istore 12, 2) := by decide +kernel
theorem dL_stores_580 : decode cL_stores 580 = .ok (.aload_n 0, 1) := by decide +kernel
theorem dL_stores_581 : decode cL_stores 581 = .ok (.iload 5, 2) := by decide +kernel
theorem dL_stores_583 : decode cL_stores 583 = .ok (.iload 10, 2) := by decide +kernel
theorem dL_stores_585 : decode cL_stores 585 = .ok (.invokevirtual 78, 3) := by decide +kernel
theorem dL_stores_588 : decode cL_stores 588 = .ok (.iload 11, 2) := by decide +kernel
theorem dL_stores_590 : decode cL_stores 590 = .ok (.if_icmp .ne 53, 3) := by decide +kernel
theorem dL_stores_593 : decode cL_stores 593 = .ok (.aload_n 0, 1) := by decide +kernel
theorem dL_stores_594 : decode cL_stores 594 = .ok (.iload 5, 2) := by decide +kernel
theorem dL_stores_596 : decode cL_stores 596 = .ok (.iconst 0, 1) := by decide +kernel
theorem dL_stores_597 : decode cL_stores 597 = .ok (.invokevirtual 43, 3) := by decide +kernel
theorem dL_stores_600 : decode cL_stores 600 = .ok (.iload 7, 2) := by decide +kernel
theorem dL_stores_602 : decode cL_stores 602 = .ok (.iload 12, 2) := by decide +kernel
theorem dL_stores_604 : decode cL_stores 604 = .ok (.ior, 1) := by decide +kernel
theorem dL_stores_605 : decode cL_stores 605 = .ok (.if_icmp .ne 38, 3) := by decide +kernel
theorem dL_stores_608 : decode cL_stores 608 = .ok (.aload_n 0, 1) := by decide +kernel
theorem dL_stores_609 : decode cL_stores 609 = .ok (.iload 10, 2) := by decide +kernel
theorem dL_stores_611 : decode cL_stores 611 = .ok (.iconst 0, 1) := by decide +kernel
theorem dL_stores_612 : decode cL_stores 612 = .ok (.invokevirtual 43, 3) := by decide +kernel
theorem dL_stores_615 : decode cL_stores 615 = .ok (.ifCond .ne 28, 3) := by decide +kernel
theorem dL_stores_618 : decode cL_stores 618 = .ok (.aload_n 0, 1) := by decide +kernel
theorem dL_stores_619 : decode cL_stores 619 = .ok (.iload 5, 2) := by decide +kernel
theorem dL_stores_621 : decode cL_stores 621 = .ok (.iconst 1, 1) := by decide +kernel
theorem dL_stores_622 : decode cL_stores 622 = .ok (.invokevirtual 43, 3) := by decide +kernel
theorem dL_stores_625 : decode cL_stores 625 = .ok (.ifCond .ne 18, 3) := by decide +kernel
theorem dL_stores_628 : decode cL_stores 628 = .ok (.aload_n 0, 1) := by decide +kernel
theorem dL_stores_629 : decode cL_stores 629 = .ok (.iload 5, 2) := by decide +kernel
theorem dL_stores_631 : decode cL_stores 631 = .ok (.iload 10, 2) := by decide +kernel
theorem dL_stores_633 : decode cL_stores 633 = .ok (.invokevirtual 78, 3) := by decide +kernel
theorem dL_stores_636 : decode cL_stores 636 = .ok (.ifCond .ne 7, 3) := by decide +kernel
theorem dL_stores_639 : decode cL_stores 639 = .ok (.iconst 1, 1) := by decide +kernel
theorem dL_stores_640 : decode cL_stores 640 = .ok (.goto 4, 3) := by decide +kernel
theorem dL_stores_643 : decode cL_stores 643 = .ok (.iconst 0, 1) := by decide +kernel
theorem dL_stores_644 : decode cL_stores 644 = .ok (.ireturn, 1) := by decide +kernel
theorem dL_same_0 : decode cL_same 0 = .ok (.iconst 0, 1) := by decide +kernel
theorem dL_same_1 : decode cL_same 1 = .ok (.istore_n 2, 1) := by decide +kernel
theorem dL_same_2 : decode cL_same 2 = .ok (.iconst 0, 1) := by decide +kernel
theorem dL_same_3 : decode cL_same 3 = .ok (.istore_n 3, 1) := by decide +kernel
theorem dL_same_4 : decode cL_same 4 = .ok (.iconst 0, 1) := by decide +kernel
theorem dL_same_5 : decode cL_same 5 = .ok (.istore 4, 2) := by decide +kernel
theorem dL_same_7 : decode cL_same 7 = .ok (.iconst 0, 1) := by decide +kernel
theorem dL_same_8 : decode cL_same 8 = .ok (.istore 5, 2) := by decide +kernel
theorem dL_same_10 : decode cL_same 10 = .ok (.iconst 0, 1) := by decide +kernel
theorem dL_same_11 : decode cL_same 11 = .ok (.istore 6, 2) := by decide +kernel
theorem dL_same_13 : decode cL_same 13 = .ok (.sipush (-10005), 3) := by decide +kernel
theorem dL_same_16 : decode cL_same 16 = .ok (.istore 7, 2) := by decide +kernel
theorem dL_same_18 : decode cL_same 18 = .ok (.iconst 0, 1) := by decide +kernel
theorem dL_same_19 : decode cL_same 19 = .ok (.istore 8, 2) := by decide +kernel
theorem dL_same_21 : decode cL_same 21 = .ok (.bipush 8, 2) := by decide +kernel
theorem dL_same_23 : decode cL_same 23 = .ok (.newarray .int, 2) := by decide +kernel
theorem dL_same_25 : decode cL_same 25 = .ok (.astore 9, 2) := by decide +kernel
theorem dL_same_27 : decode cL_same 27 = .ok (.bipush 8, 2) := by decide +kernel
theorem dL_same_29 : decode cL_same 29 = .ok (.newarray .int, 2) := by decide +kernel
theorem dL_same_31 : decode cL_same 31 = .ok (.astore 10, 2) := by decide +kernel
theorem dL_same_33 : decode cL_same 33 = .ok (.iconst 0, 1) := by decide +kernel
theorem dL_same_34 : decode cL_same 34 = .ok (.istore 11, 2) := by decide +kernel
theorem dL_same_36 : decode cL_same 36 = .ok (.iload 11, 2) := by decide +kernel
theorem dL_same_38 : decode cL_same 38 = .ok (.iload_n 1, 1) := by decide +kernel
theorem dL_same_39 : decode cL_same 39 = .ok (.if_icmp .ge 525, 3) := by decide +kernel
theorem dL_same_42 : decode cL_same 42 = .ok (.iload_n 2, 1) := by decide +kernel
theorem dL_same_43 : decode cL_same 43 = .ok (.aload_n 0, 1) := by decide +kernel
theorem dL_same_44 : decode cL_same 44 = .ok (.iload 11, 2) := by decide +kernel
theorem dL_same_46 : decode cL_same 46 = .ok (.iconst 1, 1) := by decide +kernel
theorem dL_same_47 : decode cL_same 47 = .ok (.invokevirtual 18, 3) := by decide +kernel
theorem dL_same_50 : decode cL_same 50 = .ok (.ifCond .le 7, 3) := by decide +kernel
theorem dL_same_53 : decode cL_same 53 = .ok (.iconst 1, 1) := by decide +kernel
theorem dL_same_54 : decode cL_same 54 = .ok (.goto 4, 3) := by decide +kernel
theorem dL_same_57 : decode cL_same 57 = .ok (.iconst 0, 1) := by decide +kernel
theorem dL_same_58 : decode cL_same 58 = .ok (.iadd, 1) := by decide +kernel
theorem dL_same_59 : decode cL_same 59 = .ok (.istore_n 2, 1) := by decide +kernel
theorem dL_same_60 : decode cL_same 60 = .ok (.iload_n 3, 1) := by decide +kernel
theorem dL_same_61 : decode cL_same 61 = .ok (.aload_n 0, 1) := by decide +kernel
theorem dL_same_62 : decode cL_same 62 = .ok (.iload 11, 2) := by decide +kernel
theorem dL_same_64 : decode cL_same 64 = .ok (.iconst 2, 1) := by decide +kernel
theorem dL_same_65 : decode cL_same 65 = .ok (.invokevirtual 18, 3) := by decide +kernel
theorem dL_same_68 : decode cL_same 68 = .ok (.iadd, 1) := by decide +kernel
theorem dL_same_69 : decode cL_same 69 = .ok (.istore_n 3, 1) := by decide +kernel
theorem dL_same_70 : decode cL_same 70 = .ok (.iload 4, 2) := by decide +kernel
theorem dL_same_72 : decode cL_same 72 = .ok (.aload_n 0, 1) := by decide +kernel
theorem dL_same_73 : decode cL_same 73 = .ok (.iload 11, 2) := by decide +kernel
theorem dL_same_75 : decode cL_same 75 = .ok (.iconst 3, 1) := by decide +kernel
theorem dL_same_76 : decode cL_same 76 = .ok (.invokevirtual 18, 3) := by decide +kernel
theorem dL_same_79 : decode cL_same 79 = .ok (.iadd, 1) := by decide +kernel
theorem dL_same_80 : decode cL_same 80 = .ok (.istore 4, 2) := by decide +kernel
theorem dL_same_82 : decode cL_same 82 = .ok (.iload 5, 2) := by decide +kernel
theorem dL_same_84 : decode cL_same 84 = .ok (.aload_n 0, 1) := by decide +kernel
theorem dL_same_85 : decode cL_same 85 = .ok (.iload 11, 2) := by decide +kernel
theorem dL_same_87 : decode cL_same 87 = .ok (.iconst 4, 1) := by decide +kernel
theorem dL_same_88 : decode cL_same 88 = .ok (.invokevirtual 18, 3) := by decide +kernel
theorem dL_same_91 : decode cL_same 91 = .ok (.iadd, 1) := by decide +kernel
theorem dL_same_92 : decode cL_same 92 = .ok (.istore 5, 2) := by decide +kernel
theorem dL_same_94 : decode cL_same 94 = .ok (.aload_n 0, 1) := by decide +kernel
theorem dL_same_95 : decode cL_same 95 = .ok (.iconst 0, 1) := by decide +kernel
theorem dL_same_96 : decode cL_same 96 = .ok (.iload 11, 2) := by decide +kernel
theorem dL_same_98 : decode cL_same 98 = .ok (.iload_n 1, 1) := by decide +kernel
theorem dL_same_99 : decode cL_same 99 = .ok (.aload 9, 2) := by decide +kernel
theorem dL_same_101 : decode cL_same 101 = .ok (.invokestatic 22, 3) := by decide +kernel
theorem dL_same_104 : decode cL_same 104 = .ok (.aload_n 0, 1) := by decide +kernel
theorem dL_same_105 : decode cL_same 105 = .ok (.iconst 1, 1) := by decide +kernel
theorem dL_same_106 : decode cL_same 106 = .ok (.iload 11, 2) := by decide +kernel
theorem dL_same_108 : decode cL_same 108 = .ok (.iload_n 1, 1) := by decide +kernel
theorem dL_same_109 : decode cL_same 109 = .ok (.aload 10, 2) := by decide +kernel
theorem dL_same_111 : decode cL_same 111 = .ok (.invokestatic 22, 3) := by decide +kernel
theorem dL_same_114 : decode cL_same 114 = .ok (.aload 9, 2) := by decide +kernel
theorem dL_same_116 : decode cL_same 116 = .ok (.aload 10, 2) := by decide +kernel
theorem dL_same_118 : decode cL_same 118 = .ok (.iload_n 1, 1) := by decide +kernel
theorem dL_same_119 : decode cL_same 119 = .ok (.invokestatic 28, 3) := by decide +kernel
theorem dL_same_122 : decode cL_same 122 = .ok (.ifCond .eq 26, 3) := by decide +kernel
theorem dL_same_125 : decode cL_same 125 = .ok (.aload_n 0, 1) := by decide +kernel
theorem dL_same_126 : decode cL_same 126 = .ok (.iload 11, 2) := by decide +kernel
theorem dL_same_128 : decode cL_same 128 = .ok (.iconst 1, 1) := by decide +kernel
theorem dL_same_129 : decode cL_same 129 = .ok (.invokevirtual 18, 3) := by decide +kernel
theorem dL_same_132 : decode cL_same 132 = .ok (.ifCond .ne 16, 3) := by decide +kernel
theorem dL_same_135 : decode cL_same 135 = .ok (.aload_n 0, 1) := by decide +kernel
theorem dL_same_136 : decode cL_same 136 = .ok (.iload 11, 2) := by decide +kernel
theorem dL_same_138 : decode cL_same 138 = .ok (.invokevirtual 36, 3) := by decide +kernel
theorem dL_same_141 : decode cL_same 141 = .ok (.ifCond .ne 7, 3) := by decide +kernel
theorem dL_same_144 : decode cL_same 144 = .ok (.iconst 1, 1) := by decide +kernel
theorem dL_same_145 : decode cL_same 145 = .ok (.goto 4, 3) := by decide +kernel
theorem dL_same_148 : decode cL_same 148 = .ok (.iconst 0, 1) := by decide +kernel
theorem dL_same_149 : decode cL_same 149 = .ok (.istore 12, 2) := by decide +kernel
theorem dL_same_151 : decode cL_same 151 = .ok (.aload 9, 2) := by decide +kernel
theorem dL_same_153 : decode cL_same 153 = .ok (.aload 10, 2) := by decide +kernel
theorem dL_same_155 : decode cL_same 155 = .ok (.iload_n 1, 1) := by decide +kernel
theorem dL_same_156 : decode cL_same 156 = .ok (.invokestatic 28, 3) := by decide +kernel
theorem dL_same_159 : decode cL_same 159 = .ok (.ifCond .eq 74, 3) := by decide +kernel
theorem dL_same_162 : decode cL_same 162 = .ok (.aload_n 0, 1) := by decide +kernel
theorem dL_same_163 : decode cL_same 163 = .ok (.iload 11, 2) := by decide +kernel
theorem dL_same_165 : decode cL_same 165 = .ok (.iconst 2, 1) := by decide +kernel
theorem dL_same_166 : decode cL_same 166 = .ok (.invokevirtual 18, 3) := by decide +kernel
theorem dL_same_169 : decode cL_same 169 = .ok (.ifCond .le 13, 3) := by decide +kernel
theorem dL_same_172 : decode cL_same 172 = .ok (.aload_n 0, 1) := by decide +kernel
theorem dL_same_173 : decode cL_same 173 = .ok (.iload 11, 2) := by decide +kernel
theorem dL_same_175 : decode cL_same 175 = .ok (.iconst 1, 1) := by decide +kernel
theorem dL_same_176 : decode cL_same 176 = .ok (.invokevirtual 18, 3) := by decide +kernel
theorem dL_same_179 : decode cL_same 179 = .ok (.ifCond .eq 54, 3) := by decide +kernel
theorem dL_same_182 : decode cL_same 182 = .ok (.aload_n 0, 1) := by decide +kernel
theorem dL_same_183 : decode cL_same 183 = .ok (.iload 11, 2) := by decide +kernel
theorem dL_same_185 : decode cL_same 185 = .ok (.bipush 7, 2) := by decide +kernel
theorem dL_same_187 : decode cL_same 187 = .ok (.invokevirtual 18, 3) := by decide +kernel
theorem dL_same_190 : decode cL_same 190 = .ok (.sipush (-10005), 3) := by decide +kernel
theorem dL_same_193 : decode cL_same 193 = .ok (.if_icmp .ne 7, 3) := by decide +kernel
theorem dL_same_196 : decode cL_same 196 = .ok (.iconst 1, 1) := by decide +kernel
theorem dL_same_197 : decode cL_same 197 = .ok (.goto 4, 3) := by decide +kernel
theorem dL_same_200 : decode cL_same 200 = .ok (.iconst 0, 1) := by decide +kernel
theorem dL_same_201 : decode cL_same 201 = .ok (.aload_n 0, 1) := by decide +kernel
theorem dL_same_202 : decode cL_same 202 = .ok (.iload 11, 2) := by decide +kernel
theorem dL_same_204 : decode cL_same 204 = .ok (.iconst 2, 1) := by decide +kernel
theorem dL_same_205 : decode cL_same 205 = .ok (.invokevirtual 18, 3) := by decide +kernel
theorem dL_same_208 : decode cL_same 208 = .ok (.ifCond .ne 7, 3) := by decide +kernel
theorem dL_same_211 : decode cL_same 211 = .ok (.iconst 1, 1) := by decide +kernel
theorem dL_same_212 : decode cL_same 212 = .ok (.goto 4, 3) := by decide +kernel
theorem dL_same_215 : decode cL_same 215 = .ok (.iconst 0, 1) := by decide +kernel
theorem dL_same_216 : decode cL_same 216 = .ok (.if_icmp .ne 17, 3) := by decide +kernel
theorem dL_same_219 : decode cL_same 219 = .ok (.aload_n 0, 1) := by decide +kernel
theorem dL_same_220 : decode cL_same 220 = .ok (.iload 11, 2) := by decide +kernel
theorem dL_same_222 : decode cL_same 222 = .ok (.bipush 8, 2) := by decide +kernel
theorem dL_same_224 : decode cL_same 224 = .ok (.invokevirtual 18, 3) := by decide +kernel
theorem dL_same_227 : decode cL_same 227 = .ok (.sipush (-10002), 3) := by decide +kernel
theorem dL_same_230 : decode cL_same 230 = .ok (.if_icmp .eq 5, 3) := by decide +kernel
theorem dL_same_233 : decode cL_same 233 = .ok (.iconst 0, 1) := by decide +kernel
theorem dL_same_234 : decode cL_same 234 = .ok (.ireturn, 1) := by decide +kernel
theorem dL_same_235 : decode cL_same 235 = .ok (.iconst 0, 1) := by decide +kernel
theorem dL_same_236 : decode cL_same 236 = .ok (.istore 13, 2) := by decide +kernel
theorem dL_same_238 : decode cL_same 238 = .ok (.iload 13, 2) := by decide +kernel
theorem dL_same_240 : decode cL_same 240 = .ok (.iload_n 1, 1) := by decide +kernel
theorem dL_same_241 : decode cL_same 241 = .ok (.if_icmp .ge 214, 3) := by decide +kernel
theorem dL_same_244 : decode cL_same 244 = .ok (.iconst 0, 1) := by decide +kernel
theorem dL_same_245 : decode cL_same 245 = .ok (.istore 14, 2) := by decide +kernel
theorem dL_same_247 : decode cL_same 247 = .ok (.iload 14, 2) := by decide +kernel
theorem dL_same_249 : decode cL_same 249 = .ok (.iconst 2, 1) := by decide +kernel
theorem dL_same_250 : decode cL_same 250 = .ok (.if_icmp .ge 199, 3) := by decide +kernel
theorem dL_same_253 : decode cL_same 253 = .ok (.aload_n 0, 1) := by decide +kernel
theorem dL_same_254 : decode cL_same 254 = .ok (.iload 14, 2) := by decide +kernel
theorem dL_same_256 : decode cL_same 256 = .ok (.iload 11, 2) := by decide +kernel
theorem dL_same_258 : decode cL_same 258 = .ok (.iload_n 1, 1) := by decide +kernel
theorem dL_same_259 : decode cL_same 259 = .ok (.aload 9, 2) := by decide +kernel
theorem dL_same_261 : decode cL_same 261 = .ok (.invokestatic 22, 3) := by decide +kernel
theorem dL_same_264 : decode cL_same 264 = .ok (.aload_n 0, 1) := by decide +kernel
theorem dL_same_265 : decode cL_same 265 = .ok (.iload 14, 2) := by decide +kernel
theorem dL_same_267 : decode cL_same 267 = .ok (.iload 13, 2) := by decide +kernel
theorem dL_same_269 : decode cL_same 269 = .ok (.iload_n 1, 1) := by decide +kernel
theorem dL_same_270 : decode cL_same 270 = .ok (.aload 10, 2) := by decide +kernel
theorem dL_same_272 : decode cL_same 272 = .ok (.invokestatic 22, 3) := by decide +kernel
theorem dL_same_275 : decode cL_same 275 = .ok (.aload 9, 2) := by decide +kernel
theorem dL_same_277 : decode cL_same 277 = .ok (.aload 10, 2) := by decide +kernel
theorem dL_same_279 : decode cL_same 279 = .ok (.iload_n 1, 1) := by decide +kernel
theorem dL_same_280 : decode cL_same 280 = .ok (.invokestatic 28, 3) := by decide +kernel
theorem dL_same_283 : decode cL_same 283 = .ok (.ifCond .eq 22, 3) := by decide +kernel
theorem dL_same_286 : decode cL_same 286 = .ok (.aload 10, 2) := by decide +kernel
theorem dL_same_288 : decode cL_same 288 = .ok (.aload 9, 2) := by decide +kernel
theorem dL_same_290 : decode cL_same 290 = .ok (.iload_n 1, 1) := by decide +kernel
theorem dL_same_291 : decode cL_same 291 = .ok (.invokestatic 28, 3) := by decide +kernel
theorem dL_same_294 : decode cL_same 294 = .ok (.ifCond .eq 7, 3) := by decide +kernel
theorem dL_same_297 : decode cL_same 297 = .ok (.iconst 0, 1) := by decide +kernel
theorem dL_same_298 : decode cL_same 298 = .ok (.goto 23, 3) := by decide +kernel
theorem dL_same_301 : decode cL_same 301 = .ok (.iconst (-1), 1) := by decide +kernel
theorem dL_same_302 : decode cL_same 302 = .ok (.goto 19, 3) := by decide +kernel
theorem dL_same_305 : decode cL_same 305 = .ok (.aload 10, 2) := by decide +kernel
theorem dL_same_307 : decode cL_same 307 = .ok (.aload 9, 2) := by decide +kernel
theorem dL_same_309 : decode cL_same 309 = .ok (.iload_n 1, 1) := by decide +kernel
theorem dL_same_310 : decode cL_same 310 = .ok (.invokestatic 28, 3) := by decide +kernel
theorem dL_same_313 : decode cL_same 313 = .ok (.ifCond .eq 7, 3) := by decide +kernel
theorem dL_same_316 : decode cL_same 316 = .ok (.iconst 1, 1) := by decide +kernel
theorem dL_same_317 : decode cL_same 317 = .ok (.goto 4, 3) := by decide +kernel
theorem dL_same_320 : decode cL_same 320 = .ok (.iconst 2, 1) := by decide +kernel
theorem dL_same_321 : decode cL_same 321 = .ok (.istore 15, 2) := by decide +kernel
theorem dL_same_323 : decode cL_same 323 = .ok (.aload_n 0, 1) := by decide +kernel
theorem dL_same_324 : decode cL_same 324 = .ok (.iload 11, 2) := by decide +kernel
theorem dL_same_326 : decode cL_same 326 = .ok (.iload 13, 2) := by decide +kernel
theorem dL_same_328 : decode cL_same 328 = .ok (.iload 14, 2) := by decide +kernel
theorem dL_same_330 : decode cL_same 330 = .ok (.iconst 1, 1) := by decide +kernel
theorem dL_same_331 : decode cL_same 331 = .ok (.if_icmp .ne 7, 3) := by decide +kernel
theorem dL_same_334 : decode cL_same 334 = .ok (.iconst 1, 1) := by decide +kernel
theorem dL_same_335 : decode cL_same 335 = .ok (.goto 4, 3) := by decide +kernel
theorem dL_same_338 : decode cL_same 338 = .ok (.iconst 0, 1) := by decide +kernel
theorem dL_same_339 : decode cL_same 339 = .ok (.invokevirtual 81, 3) := by decide +kernel
theorem dL_same_342 : decode cL_same 342 = .ok (.iload 15, 2) := by decide +kernel
theorem dL_same_344 : decode cL_same 344 = .ok (.if_icmp .eq 5, 3) := by decide +kernel
theorem dL_same_347 : decode cL_same 347 = .ok (.iconst 0, 1) := by decide +kernel
theorem dL_same_348 : decode cL_same 348 = .ok (.ireturn, 1) := by decide +kernel
theorem dL_same_349 : decode cL_same 349 = .ok (.iload 6, 2) := by decide +kernel
theorem dL_same_351 : decode cL_same 351 = .ok (.iload 14, 2) := by decide +kernel
theorem dL_same_353 : decode cL_same 353 = .ok (.iconst 1, 1) := by decide +kernel
theorem dL_same_354 : decode cL_same 354 = .ok (.if_icmp .ne 20, 3) := by decide +kernel
theorem dL_same_357 : decode cL_same 357 = .ok (.iload 15, 2) := by decide +kernel
theorem dL_same_359 : decode cL_same 359 = .ok (.iconst 2, 1) := by decide +kernel
theorem dL_same_360 : decode cL_same 360 = .ok (.if_icmp .ne 14, 3) := by decide +kernel
theorem dL_same_363 : decode cL_same 363 = .ok (.iload 11, 2) := by decide +kernel
theorem dL_same_365 : decode cL_same 365 = .ok (.iload 13, 2) := by decide +kernel
theorem dL_same_367 : decode cL_same 367 = .ok (.if_icmp .ge 7, 3) := by decide +kernel
theorem dL_same_370 : decode cL_same 370 = .ok (.iconst 1, 1) := by decide +kernel
theorem dL_same_371 : decode cL_same 371 = .ok (.goto 4, 3) := by decide +kernel
theorem dL_same_374 : decode cL_same 374 = .ok (.iconst 0, 1) := by decide +kernel
theorem dL_same_375 : decode cL_same 375 = .ok (.iadd, 1) := by decide +kernel
theorem dL_same_376 : decode cL_same 376 = .ok (.istore 6, 2) := by decide +kernel
theorem dL_same_378 : decode cL_same 378 = .ok (.iload 14, 2) := by decide +kernel
theorem dL_same_380 : decode cL_same 380 = .ok (.iconst 1, 1) := by decide +kernel
theorem dL_same_381 : decode cL_same 381 = .ok (.if_icmp .ne 35, 3) := by decide +kernel
theorem dL_same_384 : decode cL_same 384 = .ok (.iload 15, 2) := by decide +kernel
theorem dL_same_386 : decode cL_same 386 = .ok (.iconst 2, 1) := by decide +kernel
theorem dL_same_387 : decode cL_same 387 = .ok (.if_icmp .ne 29, 3) := by decide +kernel
theorem dL_same_390 : decode cL_same 390 = .ok (.aload_n 0, 1) := by decide +kernel
theorem dL_same_391 : decode cL_same 391 = .ok (.iload 13, 2) := by decide +kernel
theorem dL_same_393 : decode cL_same 393 = .ok (.iconst 1, 1) := by decide +kernel
theorem dL_same_394 : decode cL_same 394 = .ok (.invokevirtual 18, 3) := by decide +kernel
theorem dL_same_397 : decode cL_same 397 = .ok (.ifCond .ne 19, 3) := by decide +kernel
theorem dL_same_400 : decode cL_same 400 = .ok (.iload 7, 2) := by decide +kernel
theorem dL_same_402 : decode cL_same 402 = .ok (.ifCond .ge 14, 3) := by decide +kernel
theorem dL_same_405 : decode cL_same 405 = .ok (.bipush 10, 2) := by decide +kernel
theorem dL_same_407 : decode cL_same 407 = .ok (.iload 11, 2) := by decide +kernel
theorem dL_same_409 : decode cL_same 409 = .ok (.imul, 1) := by decide +kernel
theorem dL_same_410 : decode cL_same 410 = .ok (.iload 13, 2) := by decide +kernel
theorem dL_same_412 : decode cL_same 412 = .ok (.iadd, 1) := by decide +kernel
theorem dL_same_413 : decode cL_same 413 = .ok (.goto 5, 3) := by decide +kernel
theorem dL_same_416 : decode cL_same 416 = .ok (.iload 7, 2) := by decide +kernel
theorem dL_same_418 : decode cL_same 418 = .ok (.istore 7, 2) := by decide +kernel
theorem dL_same_420 : decode cL_same 420 = .ok (.iload 12, 2) := by decide +kernel
theorem dL_same_422 : decode cL_same 422 = .ok (.ifCond .eq 18, 3) := by decide +kernel
theorem dL_same_425 : decode cL_same 425 = .ok (.iload 14, 2) := by decide +kernel
theorem dL_same_427 : decode cL_same 427 = .ok (.ifCond .eq 9, 3) := by decide +kernel
theorem dL_same_430 : decode cL_same 430 = .ok (.iload 15, 2) := by decide +kernel
theorem dL_same_432 : decode cL_same 432 = .ok (.iconst 2, 1) := by decide +kernel
theorem dL_same_433 : decode cL_same 433 = .ok (.if_icmp .ge 7, 3) := by decide +kernel
theorem dL_same_436 : decode cL_same 436 = .ok (.iconst 1, 1) := by decide +kernel
theorem dL_same_437 : decode cL_same 437 = .ok (.goto 4, 3) := by decide +kernel
theorem dL_same_440 : decode cL_same 440 = .ok (.iconst 0, 1) := by decide +kernel
theorem dL_same_441 : decode cL_same 441 = .ok (.istore 12, 2) := by decide +kernel
theorem dL_same_443 : decode cL_same 443 = .ok (.iinc 14 1, 3) := by decide +kernel
theorem dL_same_446 : decode cL_same 446 = .ok (.goto (-199), 3) := by decide +kernel
theorem dL_same_449 : decode cL_same 449 = .ok (.iinc 13 1, 3) := by decide +kernel
theorem dL_same_452 : decode cL_same 452 = .ok (.goto (-214), 3) := by decide +kernel
theorem dL_same_455 : decode cL_same 455 = .ok (.iload 8, 2) := by decide +kernel
theorem dL_same_457 : decode cL_same 457 = .ok (.iload 12, 2) := by decide +kernel
theorem dL_same_459 : decode cL_same 459 = .ok (.ifCond .eq 10, 3) := by decide +kernel
theorem dL_same_462 : decode cL_same 462 = .ok (.iconst 1, 1) := by decide +kernel
theorem dL_same_463 : decode cL_same 463 = .ok (.iload 11, 2) := by decide +kernel
theorem dL_same_465 : decode cL_same 465 = .ok (.ishl, 1) := by decide +kernel
theorem dL_same_466 : decode cL_same 466 = .ok (.goto 4, 3) := by decide +kernel
theorem dL_same_469 : decode cL_same 469 = .ok (.iconst 0, 1) := by decide +kernel
theorem dL_same_470 : decode cL_same 470 = .ok (.ior, 1) := by decide +kernel
theorem dL_same_471 : decode cL_same 471 = .ok (.istore 8, 2) := by decide +kernel
theorem dL_same_473 : decode cL_same 473 = .ok (.aload_n 0, 1) := by decide +kernel
theorem dL_same_474 : decode cL_same 474 = .ok (.iload 11, 2) := by decide +kernel
theorem dL_same_476 : decode cL_same 476 = .ok (.iconst 2, 1) := by decide +kernel
theorem dL_same_477 : decode cL_same 477 = .ok (.invokevirtual 18, 3) := by decide +kernel
theorem dL_same_480 : decode cL_same 480 = .ok (.iconst 1, 1) := by decide +kernel
theorem dL_same_481 : decode cL_same 481 = .ok (.if_icmp .ne 47, 3) := by decide +kernel
theorem dL_same_484 : decode cL_same 484 = .ok (.aload_n 0, 1) := by decide +kernel
theorem dL_same_485 : decode cL_same 485 = .ok (.iconst 2, 1) := by decide +kernel
theorem dL_same_486 : decode cL_same 486 = .ok (.iload 11, 2) := by decide +kernel
theorem dL_same_488 : decode cL_same 488 = .ok (.iload_n 1, 1) := by decide +kernel
theorem dL_same_489 : decode cL_same 489 = .ok (.aload 9, 2) := by decide +kernel
theorem dL_same_491 : decode cL_same 491 = .ok (.invokestatic 22, 3) := by decide +kernel
theorem dL_same_494 : decode cL_same 494 = .ok (.aload_n 0, 1) := by decide +kernel
theorem dL_same_495 : decode cL_same 495 = .ok (.iconst 3, 1) := by decide +kernel
theorem dL_same_496 : decode cL_same 496 = .ok (.iload 11, 2) := by decide +kernel
theorem dL_same_498 : decode cL_same 498 = .ok (.iload_n 1, 1) := by decide +kernel
theorem dL_same_499 : decode cL_same 499 = .ok (.aload 10, 2) := by decide +kernel
theorem dL_same_501 : decode cL_same 501 = .ok (.invokestatic 22, 3) := by decide +kernel
theorem dL_same_504 : decode cL_same 504 = .ok (.aload 9, 2) := by decide +kernel
theorem dL_same_506 : decode cL_same 506 = .ok (.aload 10, 2) := by decide +kernel
theorem dL_same_508 : decode cL_same 508 = .ok (.iload_n 1, 1) := by decide +kernel
theorem dL_same_509 : decode cL_same 509 = .ok (.invokestatic 28, 3) := by decide +kernel
theorem dL_same_512 : decode cL_same 512 = .ok (.ifCond .ne 14, 3) := by decide +kernel
theorem dL_same_515 : decode cL_same 515 = .ok (.aload 10, 2) := by decide +kernel
theorem dL_same_517 : decode cL_same 517 = .ok (.aload 9, 2) := by decide +kernel
theorem dL_same_519 : decode cL_same 519 = .ok (.iload_n 1, 1) := by decide +kernel
theorem dL_same_520 : decode cL_same 520 = .ok (.invokestatic 28, 3) := by decide +kernel
theorem dL_same_523 : decode cL_same 523 = .ok (.ifCond .eq 35, 3) := by decide +kernel
theorem dL_same_526 : decode cL_same 526 = .ok (.iconst 0, 1) := by decide +kernel
theorem dL_same_527 : decode cL_same 527 = .ok (.ireturn, 1) := by decide +kernel
theorem dL_same_528 : decode cL_same 528 = .ok (.aload_n 0, 1) := by decide +kernel
theorem dL_same_529 : decode cL_same 529 = .ok (.iload 11, 2) := by decide +kernel
theorem dL_same_531 : decode cL_same 531 = .ok (.iconst 2, 1) := by decide +kernel
theorem dL_same_532 : decode cL_same 532 = .ok (.iconst 0, 1) := by decide +kernel
theorem dL_same_533 : decode cL_same 533 = .ok (.invokevirtual 9, 3) := by decide +kernel
theorem dL_same_536 : decode cL_same 536 = .ok (.sipush (-10005), 3) := by decide +kernel
theorem dL_same_539 : decode cL_same 539 = .ok (.if_icmp .ne 17, 3) := by decide +kernel
theorem dL_same_542 : decode cL_same 542 = .ok (.aload_n 0, 1) := by decide +kernel
theorem dL_same_543 : decode cL_same 543 = .ok (.iload 11, 2) := by decide +kernel
theorem dL_same_545 : decode cL_same 545 = .ok (.iconst 3, 1) := by decide +kernel
theorem dL_same_546 : decode cL_same 546 = .ok (.iconst 0, 1) := by decide +kernel
theorem dL_same_547 : decode cL_same 547 = .ok (.invokevirtual 9, 3) := by decide +kernel
theorem dL_same_550 : decode cL_same 550 = .ok (.sipush (-10005), 3) := by decide +kernel
theorem dL_same_553 : decode cL_same 553 = .ok (.if_icmp .eq 5, 3) := by decide +kernel
theorem dL_same_556 : decode cL_same 556 = .ok (.iconst 0, 1) := by decide +kernel
theorem dL_same_557 : decode cL_same 557 = .ok (.ireturn, 1) := by decide +kernel
theorem dL_same_558 : decode cL_same 558 = .ok (.iinc 11 1, 3) := by decide +kernel
theorem dL_same_561 : decode cL_same 561 = .ok (.goto (-525), 3) := by decide +kernel
theorem dL_same_564 : decode cL_same 564 = .ok (.aload_n 0, 1) := by decide +kernel
theorem dL_same_565 : decode cL_same 565 = .ok (.iconst 0, 1) := by decide +kernel
theorem dL_same_566 : decode cL_same 566 = .ok (.invokevirtual 40, 3) := by decide +kernel
theorem dL_same_569 : decode cL_same 569 = .ok (.iload_n 1, 1) := by decide +kernel
theorem dL_same_570 : decode cL_same 570 = .ok (.if_icmp .ne 57, 3) := by decide +kernel
theorem dL_same_573 : decode cL_same 573 = .ok (.aload_n 0, 1) := by decide +kernel
theorem dL_same_574 : decode cL_same 574 = .ok (.iconst 2, 1) := by decide +kernel
theorem dL_same_575 : decode cL_same 575 = .ok (.invokevirtual 40, 3) := by decide +kernel
theorem dL_same_578 : decode cL_same 578 = .ok (.iload_n 2, 1) := by decide +kernel
theorem dL_same_579 : decode cL_same 579 = .ok (.if_icmp .ne 48, 3) := by decide +kernel
theorem dL_same_582 : decode cL_same 582 = .ok (.aload_n 0, 1) := by decide +kernel
theorem dL_same_583 : decode cL_same 583 = .ok (.iconst 3, 1) := by decide +kernel
theorem dL_same_584 : decode cL_same 584 = .ok (.invokevirtual 40, 3) := by decide +kernel
theorem dL_same_587 : decode cL_same 587 = .ok (.iload_n 3, 1) := by decide +kernel
theorem dL_same_588 : decode cL_same 588 = .ok (.if_icmp .ne 39, 3) := by decide +kernel
theorem dL_same_591 : decode cL_same 591 = .ok (.aload_n 0, 1) := by decide +kernel
theorem dL_same_592 : decode cL_same 592 = .ok (.iconst 5, 1) := by decide +kernel
theorem dL_same_593 : decode cL_same 593 = .ok (.invokevirtual 40, 3) := by decide +kernel
theorem dL_same_596 : decode cL_same 596 = .ok (.iload 4, 2) := by decide +kernel
theorem dL_same_598 : decode cL_same 598 = .ok (.if_icmp .ne 29, 3) := by decide +kernel
theorem dL_same_601 : decode cL_same 601 = .ok (.aload_n 0, 1) := by decide +kernel
theorem dL_same_602 : decode cL_same 602 = .ok (.iconst 4, 1) := by decide +kernel
theorem dL_same_603 : decode cL_same 603 = .ok (.invokevirtual 40, 3) := by decide +kernel
theorem dL_same_606 : decode cL_same 606 = .ok (.iload 5, 2) := by decide +kernel
theorem dL_same_608 : decode cL_same 608 = .ok (.if_icmp .ne 19, 3) := by decide +kernel
theorem dL_same_611 : decode cL_same 611 = .ok (.aload_n 0, 1) := by decide +kernel
theorem dL_same_612 : decode cL_same 612 = .ok (.bipush 6, 2) := by decide +kernel
theorem dL_same_614 : decode cL_same 614 = .ok (.invokevirtual 40, 3) := by decide +kernel
theorem dL_same_617 : decode cL_same 617 = .ok (.sipush (-10002), 3) := by decide +kernel
theorem dL_same_620 : decode cL_same 620 = .ok (.if_icmp .ne 7, 3) := by decide +kernel
theorem dL_same_623 : decode cL_same 623 = .ok (.iconst 1, 1) := by decide +kernel
theorem dL_same_624 : decode cL_same 624 = .ok (.goto 4, 3) := by decide +kernel
theorem dL_same_627 : decode cL_same 627 = .ok (.iconst 0, 1) := by decide +kernel
theorem dL_same_628 : decode cL_same 628 = .ok (.istore 11, 2) := by decide +kernel
theorem dL_same_630 : decode cL_same 630 = .ok (.iload 11, 2) := by decide +kernel
theorem dL_same_632 : decode cL_same 632 = .ok (.ifCond .eq 34, 3) := by decide +kernel
theorem dL_same_635 : decode cL_same 635 = .ok (.aload_n 0, 1) := by decide +kernel
theorem dL_same_636 : decode cL_same 636 = .ok (.invokevirtual 85, 3) := by decide +kernel
theorem dL_same_639 : decode cL_same 639 = .ok (.iload 6, 2) := by decide +kernel
theorem dL_same_641 : decode cL_same 641 = .ok (.if_icmp .ne 25, 3) := by decide +kernel
theorem dL_same_644 : decode cL_same 644 = .ok (.aload_n 0, 1) := by decide +kernel
theorem dL_same_645 : decode cL_same 645 = .ok (.invokevirtual 89, 3) := by decide +kernel
theorem dL_same_648 : decode cL_same 648 = .ok (.iload 7, 2) := by decide +kernel
theorem dL_same_650 : decode cL_same 650 = .ok (.if_icmp .ne 16, 3) := by decide +kernel
theorem dL_same_653 : decode cL_same 653 = .ok (.aload_n 0, 1) := by decide +kernel
theorem dL_same_654 : decode cL_same 654 = .ok (.invokevirtual 92, 3) := by decide +kernel
theorem dL_same_657 : decode cL_same 657 = .ok (.iload 8, 2) := by decide +kernel
theorem dL_same_659 : decode cL_same 659 = .ok (.if_icmp .ne 7, 3) := by decide +kernel
theorem dL_same_662 : decode cL_same 662 = .ok (.iconst 1, 1) := by decide +kernel
theorem dL_same_663 : decode cL_same 663 = .ok (.goto 4, 3) := by decide +kernel
theorem dL_same_666 : decode cL_same 666 = .ok (.iconst 0, 1) := by decide +kernel
theorem dL_same_667 : decode cL_same 667 = .ok (.ireturn, 1) := by decide +kernel
theorem dL_errors_0 : decode cL_errors 0 = .ok (.sipush (-10001), 3) := by decide +kernel
theorem dL_errors_3 : decode cL_errors 3 = .ok (.istore_n 2, 1) := by decide +kernel
theorem dL_errors_4 : decode cL_errors 4 = .ok (.aload_n 0, 1) := by decide +kernel
theorem dL_errors_5 : decode cL_errors 5 = .ok (.iconst 1, 1) := by decide +kernel
theorem dL_errors_6 : decode cL_errors 6 = .ok (.invokevirtual 95, 3) := by decide +kernel
theorem dL_errors_9 : decode cL_errors 9 = .ok (.sipush (-10002), 3) := by decide +kernel
theorem dL_errors_12 : decode cL_errors 12 = .ok (.if_icmp .ne 142, 3) := by decide +kernel
theorem dL_errors_15 : decode cL_errors 15 = .ok (.aload_n 0, 1) := by decide +kernel
theorem dL_errors_16 : decode cL_errors 16 = .ok (.bipush 6, 2) := by decide +kernel
theorem dL_errors_18 : decode cL_errors 18 = .ok (.invokevirtual 95, 3) := by decide +kernel
theorem dL_errors_21 : decode cL_errors 21 = .ok (.sipush (-10002), 3) := by decide +kernel
theorem dL_errors_24 : decode cL_errors 24 = .ok (.if_icmp .ne 130, 3) := by decide +kernel
theorem dL_errors_27 : decode cL_errors 27 = .ok (.aload_n 0, 1) := by decide +kernel
theorem dL_errors_28 : decode cL_errors 28 = .ok (.iload_n 1, 1) := by decide +kernel
theorem dL_errors_29 : decode cL_errors 29 = .ok (.iconst 0, 1) := by decide +kernel
theorem dL_errors_30 : decode cL_errors 30 = .ok (.invokevirtual 55, 3) := by decide +kernel
theorem dL_errors_33 : decode cL_errors 33 = .ok (.iload_n 2, 1) := by decide +kernel
theorem dL_errors_34 : decode cL_errors 34 = .ok (.if_icmp .ne 120, 3) := by decide +kernel
theorem dL_errors_37 : decode cL_errors 37 = .ok (.aload_n 0, 1) := by decide +kernel
theorem dL_errors_38 : decode cL_errors 38 = .ok (.iconst 0, 1) := by decide +kernel
theorem dL_errors_39 : decode cL_errors 39 = .ok (.sipush 1001, 3) := by decide +kernel
theorem dL_errors_42 : decode cL_errors 42 = .ok (.invokevirtual 55, 3) := by decide +kernel
theorem dL_errors_45 : decode cL_errors 45 = .ok (.sipush (-10002), 3) := by decide +kernel
theorem dL_errors_48 : decode cL_errors 48 = .ok (.if_icmp .ne 106, 3) := by decide +kernel
theorem dL_errors_51 : decode cL_errors 51 = .ok (.aload_n 0, 1) := by decide +kernel
theorem dL_errors_52 : decode cL_errors 52 = .ok (.iconst 0, 1) := by decide +kernel
theorem dL_errors_53 : decode cL_errors 53 = .ok (.iload_n 1, 1) := by decide +kernel
theorem dL_errors_54 : decode cL_errors 54 = .ok (.invokevirtual 58, 3) := by decide +kernel
theorem dL_errors_57 : decode cL_errors 57 = .ok (.iload_n 2, 1) := by decide +kernel
theorem dL_errors_58 : decode cL_errors 58 = .ok (.if_icmp .ne 96, 3) := by decide +kernel
theorem dL_errors_61 : decode cL_errors 61 = .ok (.aload_n 0, 1) := by decide +kernel
theorem dL_errors_62 : decode cL_errors 62 = .ok (.iconst (-1), 1) := by decide +kernel
theorem dL_errors_63 : decode cL_errors 63 = .ok (.invokevirtual 52, 3) := by decide +kernel
theorem dL_errors_66 : decode cL_errors 66 = .ok (.iload_n 2, 1) := by decide +kernel
theorem dL_errors_67 : decode cL_errors 67 = .ok (.if_icmp .ne 87, 3) := by decide +kernel
theorem dL_errors_70 : decode cL_errors 70 = .ok (.aload_n 0, 1) := by decide +kernel
theorem dL_errors_71 : decode cL_errors 71 = .ok (.iload_n 1, 1) := by decide +kernel
theorem dL_errors_72 : decode cL_errors 72 = .ok (.invokevirtual 36, 3) := by decide +kernel
theorem dL_errors_75 : decode cL_errors 75 = .ok (.iload_n 2, 1) := by decide +kernel
theorem dL_errors_76 : decode cL_errors 76 = .ok (.if_icmp .ne 78, 3) := by decide +kernel
theorem dL_errors_79 : decode cL_errors 79 = .ok (.aload_n 0, 1) := by decide +kernel
theorem dL_errors_80 : decode cL_errors 80 = .ok (.iconst (-1), 1) := by decide +kernel
theorem dL_errors_81 : decode cL_errors 81 = .ok (.iconst 1, 1) := by decide +kernel
theorem dL_errors_82 : decode cL_errors 82 = .ok (.invokevirtual 69, 3) := by decide +kernel
theorem dL_errors_85 : decode cL_errors 85 = .ok (.iload_n 2, 1) := by decide +kernel
theorem dL_errors_86 : decode cL_errors 86 = .ok (.if_icmp .ne 68, 3) := by decide +kernel
theorem dL_errors_89 : decode cL_errors 89 = .ok (.aload_n 0, 1) := by decide +kernel
theorem dL_errors_90 : decode cL_errors 90 = .ok (.iconst 0, 1) := by decide +kernel
theorem dL_errors_91 : decode cL_errors 91 = .ok (.bipush 6, 2) := by decide +kernel
theorem dL_errors_93 : decode cL_errors 93 = .ok (.invokevirtual 78, 3) := by decide +kernel
theorem dL_errors_96 : decode cL_errors 96 = .ok (.iload_n 2, 1) := by decide +kernel
theorem dL_errors_97 : decode cL_errors 97 = .ok (.if_icmp .ne 57, 3) := by decide +kernel
theorem dL_errors_100 : decode cL_errors 100 = .ok (.aload_n 0, 1) := by decide +kernel
theorem dL_errors_101 : decode cL_errors 101 = .ok (.iconst 0, 1) := by decide +kernel
theorem dL_errors_102 : decode cL_errors 102 = .ok (.iload_n 1, 1) := by decide +kernel
theorem dL_errors_103 : decode cL_errors 103 = .ok (.invokevirtual 60, 3) := by decide +kernel
theorem dL_errors_106 : decode cL_errors 106 = .ok (.iload_n 2, 1) := by decide +kernel
theorem dL_errors_107 : decode cL_errors 107 = .ok (.if_icmp .ne 47, 3) := by decide +kernel
theorem dL_errors_110 : decode cL_errors 110 = .ok (.aload_n 0, 1) := by decide +kernel
theorem dL_errors_111 : decode cL_errors 111 = .ok (.iload_n 1, 1) := by decide +kernel
theorem dL_errors_112 : decode cL_errors 112 = .ok (.invokevirtual 66, 3) := by decide +kernel
theorem dL_errors_115 : decode cL_errors 115 = .ok (.iload_n 2, 1) := by decide +kernel
theorem dL_errors_116 : decode cL_errors 116 = .ok (.if_icmp .ne 38, 3) := by decide +kernel
theorem dL_errors_119 : decode cL_errors 119 = .ok (.aload_n 0, 1) := by decide +kernel
theorem dL_errors_120 : decode cL_errors 120 = .ok (.iconst (-1), 1) := by decide +kernel
theorem dL_errors_121 : decode cL_errors 121 = .ok (.invokevirtual 63, 3) := by decide +kernel
theorem dL_errors_124 : decode cL_errors 124 = .ok (.iload_n 2, 1) := by decide +kernel
theorem dL_errors_125 : decode cL_errors 125 = .ok (.if_icmp .ne 29, 3) := by decide +kernel
theorem dL_errors_128 : decode cL_errors 128 = .ok (.aload_n 0, 1) := by decide +kernel
theorem dL_errors_129 : decode cL_errors 129 = .ok (.iload_n 1, 1) := by decide +kernel
theorem dL_errors_130 : decode cL_errors 130 = .ok (.iconst 0, 1) := by decide +kernel
theorem dL_errors_131 : decode cL_errors 131 = .ok (.invokevirtual 98, 3) := by decide +kernel
theorem dL_errors_134 : decode cL_errors 134 = .ok (.iload_n 2, 1) := by decide +kernel
theorem dL_errors_135 : decode cL_errors 135 = .ok (.if_icmp .ne 19, 3) := by decide +kernel
theorem dL_errors_138 : decode cL_errors 138 = .ok (.aload_n 0, 1) := by decide +kernel
theorem dL_errors_139 : decode cL_errors 139 = .ok (.iconst 0, 1) := by decide +kernel
theorem dL_errors_140 : decode cL_errors 140 = .ok (.iconst 0, 1) := by decide +kernel
theorem dL_errors_141 : decode cL_errors 141 = .ok (.invokevirtual 98, 3) := by decide +kernel
theorem dL_errors_144 : decode cL_errors 144 = .ok (.sipush (-10002), 3) := by decide +kernel
theorem dL_errors_147 : decode cL_errors 147 = .ok (.if_icmp .ne 7, 3) := by decide +kernel
theorem dL_errors_150 : decode cL_errors 150 = .ok (.iconst 1, 1) := by decide +kernel
theorem dL_errors_151 : decode cL_errors 151 = .ok (.goto 4, 3) := by decide +kernel
theorem dL_errors_154 : decode cL_errors 154 = .ok (.iconst 0, 1) := by decide +kernel
theorem dL_errors_155 : decode cL_errors 155 = .ok (.istore_n 3, 1) := by decide +kernel
theorem dL_errors_156 : decode cL_errors 156 = .ok (.iload_n 3, 1) := by decide +kernel
theorem dL_errors_157 : decode cL_errors 157 = .ok (.ifCond .eq 109, 3) := by decide +kernel
theorem dL_errors_160 : decode cL_errors 160 = .ok (.aload_n 0, 1) := by decide +kernel
theorem dL_errors_161 : decode cL_errors 161 = .ok (.iload_n 1, 1) := by decide +kernel
theorem dL_errors_162 : decode cL_errors 162 = .ok (.bipush 9, 2) := by decide +kernel
theorem dL_errors_164 : decode cL_errors 164 = .ok (.invokevirtual 18, 3) := by decide +kernel
theorem dL_errors_167 : decode cL_errors 167 = .ok (.iload_n 2, 1) := by decide +kernel
theorem dL_errors_168 : decode cL_errors 168 = .ok (.if_icmp .ne 98, 3) := by decide +kernel
theorem dL_errors_171 : decode cL_errors 171 = .ok (.aload_n 0, 1) := by decide +kernel
theorem dL_errors_172 : decode cL_errors 172 = .ok (.iconst 0, 1) := by decide +kernel
theorem dL_errors_173 : decode cL_errors 173 = .ok (.iconst 0, 1) := by decide +kernel
theorem dL_errors_174 : decode cL_errors 174 = .ok (.iload_n 1, 1) := by decide +kernel
theorem dL_errors_175 : decode cL_errors 175 = .ok (.invokevirtual 9, 3) := by decide +kernel
theorem dL_errors_178 : decode cL_errors 178 = .ok (.iload_n 2, 1) := by decide +kernel
theorem dL_errors_179 : decode cL_errors 179 = .ok (.if_icmp .ne 87, 3) := by decide +kernel
theorem dL_errors_182 : decode cL_errors 182 = .ok (.aload_n 0, 1) := by decide +kernel
theorem dL_errors_183 : decode cL_errors 183 = .ok (.iconst 0, 1) := by decide +kernel
theorem dL_errors_184 : decode cL_errors 184 = .ok (.iconst 4, 1) := by decide +kernel
theorem dL_errors_185 : decode cL_errors 185 = .ok (.iconst 0, 1) := by decide +kernel
theorem dL_errors_186 : decode cL_errors 186 = .ok (.invokevirtual 9, 3) := by decide +kernel
theorem dL_errors_189 : decode cL_errors 189 = .ok (.sipush (-10002), 3) := by decide +kernel
theorem dL_errors_192 : decode cL_errors 192 = .ok (.if_icmp .ne 74, 3) := by decide +kernel
theorem dL_errors_195 : decode cL_errors 195 = .ok (.aload_n 0, 1) := by decide +kernel
theorem dL_errors_196 : decode cL_errors 196 = .ok (.iconst 0, 1) := by decide +kernel
theorem dL_errors_197 : decode cL_errors 197 = .ok (.iload_n 1, 1) := by decide +kernel
theorem dL_errors_198 : decode cL_errors 198 = .ok (.iconst 0, 1) := by decide +kernel
theorem dL_errors_199 : decode cL_errors 199 = .ok (.invokevirtual 15, 3) := by decide +kernel
theorem dL_errors_202 : decode cL_errors 202 = .ok (.iload_n 2, 1) := by decide +kernel
theorem dL_errors_203 : decode cL_errors 203 = .ok (.if_icmp .ne 63, 3) := by decide +kernel
theorem dL_errors_206 : decode cL_errors 206 = .ok (.aload_n 0, 1) := by decide +kernel
theorem dL_errors_207 : decode cL_errors 207 = .ok (.bipush 6, 2) := by decide +kernel
theorem dL_errors_209 : decode cL_errors 209 = .ok (.iconst 0, 1) := by decide +kernel
theorem dL_errors_210 : decode cL_errors 210 = .ok (.iconst 0, 1) := by decide +kernel
theorem dL_errors_211 : decode cL_errors 211 = .ok (.invokevirtual 15, 3) := by decide +kernel
theorem dL_errors_214 : decode cL_errors 214 = .ok (.iload_n 2, 1) := by decide +kernel
theorem dL_errors_215 : decode cL_errors 215 = .ok (.if_icmp .ne 51, 3) := by decide +kernel
theorem dL_errors_218 : decode cL_errors 218 = .ok (.aload_n 0, 1) := by decide +kernel
theorem dL_errors_219 : decode cL_errors 219 = .ok (.iconst 0, 1) := by decide +kernel
theorem dL_errors_220 : decode cL_errors 220 = .ok (.iconst (-1), 1) := by decide +kernel
theorem dL_errors_221 : decode cL_errors 221 = .ok (.invokevirtual 49, 3) := by decide +kernel
theorem dL_errors_224 : decode cL_errors 224 = .ok (.iload_n 2, 1) := by decide +kernel
theorem dL_errors_225 : decode cL_errors 225 = .ok (.if_icmp .ne 41, 3) := by decide +kernel
theorem dL_errors_228 : decode cL_errors 228 = .ok (.aload_n 0, 1) := by decide +kernel
theorem dL_errors_229 : decode cL_errors 229 = .ok (.bipush 6, 2) := by decide +kernel
theorem dL_errors_231 : decode cL_errors 231 = .ok (.iconst 0, 1) := by decide +kernel
theorem dL_errors_232 : decode cL_errors 232 = .ok (.invokevirtual 43, 3) := by decide +kernel
theorem dL_errors_235 : decode cL_errors 235 = .ok (.iload_n 2, 1) := by decide +kernel
theorem dL_errors_236 : decode cL_errors 236 = .ok (.if_icmp .ne 30, 3) := by decide +kernel
theorem dL_errors_239 : decode cL_errors 239 = .ok (.aload_n 0, 1) := by decide +kernel
theorem dL_errors_240 : decode cL_errors 240 = .ok (.iconst 0, 1) := by decide +kernel
theorem dL_errors_241 : decode cL_errors 241 = .ok (.iconst 4, 1) := by decide +kernel
theorem dL_errors_242 : decode cL_errors 242 = .ok (.invokevirtual 43, 3) := by decide +kernel
theorem dL_errors_245 : decode cL_errors 245 = .ok (.sipush (-10002), 3) := by decide +kernel
theorem dL_errors_248 : decode cL_errors 248 = .ok (.if_icmp .ne 18, 3) := by decide +kernel
theorem dL_errors_251 : decode cL_errors 251 = .ok (.aload_n 0, 1) := by decide +kernel
theorem dL_errors_252 : decode cL_errors 252 = .ok (.iconst 0, 1) := by decide +kernel
theorem dL_errors_253 : decode cL_errors 253 = .ok (.iload_n 1, 1) := by decide +kernel
theorem dL_errors_254 : decode cL_errors 254 = .ok (.iconst 1, 1) := by decide +kernel
theorem dL_errors_255 : decode cL_errors 255 = .ok (.invokevirtual 81, 3) := by decide +kernel
theorem dL_errors_258 : decode cL_errors 258 = .ok (.iload_n 2, 1) := by decide +kernel
theorem dL_errors_259 : decode cL_errors 259 = .ok (.if_icmp .ne 7, 3) := by decide +kernel
theorem dL_errors_262 : decode cL_errors 262 = .ok (.iconst 1, 1) := by decide +kernel
theorem dL_errors_263 : decode cL_errors 263 = .ok (.goto 4, 3) := by decide +kernel
theorem dL_errors_266 : decode cL_errors 266 = .ok (.iconst 0, 1) := by decide +kernel
theorem dL_errors_267 : decode cL_errors 267 = .ok (.ireturn, 1) := by decide +kernel
theorem dL_scripts_0 : decode cL_scripts 0 = .ok (.aload_n 0, 1) := by decide +kernel
theorem dL_scripts_1 : decode cL_scripts 1 = .ok (.invokevirtual 101, 3) := by decide +kernel
theorem dL_scripts_4 : decode cL_scripts 4 = .ok (.pop, 1) := by decide +kernel
theorem dL_scripts_5 : decode cL_scripts 5 = .ok (.aload_n 0, 1) := by decide +kernel
theorem dL_scripts_6 : decode cL_scripts 6 = .ok (.invokevirtual 104, 3) := by decide +kernel
theorem dL_scripts_9 : decode cL_scripts 9 = .ok (.ifCond .eq 5, 3) := by decide +kernel
theorem dL_scripts_12 : decode cL_scripts 12 = .ok (.iconst 0, 1) := by decide +kernel
theorem dL_scripts_13 : decode cL_scripts 13 = .ok (.ireturn, 1) := by decide +kernel
theorem dL_scripts_14 : decode cL_scripts 14 = .ok (.aload_n 0, 1) := by decide +kernel
theorem dL_scripts_15 : decode cL_scripts 15 = .ok (.bipush 109, 2) := by decide +kernel
theorem dL_scripts_17 : decode cL_scripts 17 = .ok (.invokevirtual 107, 3) := by decide +kernel
theorem dL_scripts_20 : decode cL_scripts 20 = .ok (.pop, 1) := by decide +kernel
theorem dL_scripts_21 : decode cL_scripts 21 = .ok (.aload_n 0, 1) := by decide +kernel
theorem dL_scripts_22 : decode cL_scripts 22 = .ok (.invokevirtual 104, 3) := by decide +kernel
theorem dL_scripts_25 : decode cL_scripts 25 = .ok (.bipush (-101), 2) := by decide +kernel
theorem dL_scripts_27 : decode cL_scripts 27 = .ok (.if_icmp .ne 7, 3) := by decide +kernel
theorem dL_scripts_30 : decode cL_scripts 30 = .ok (.iconst 1, 1) := by decide +kernel
theorem dL_scripts_31 : decode cL_scripts 31 = .ok (.goto 4, 3) := by decide +kernel
theorem dL_scripts_34 : decode cL_scripts 34 = .ok (.iconst 0, 1) := by decide +kernel
theorem dL_scripts_35 : decode cL_scripts 35 = .ok (.istore_n 2, 1) := by decide +kernel
theorem dL_scripts_36 : decode cL_scripts 36 = .ok (.aload_n 0, 1) := by decide +kernel
theorem dL_scripts_37 : decode cL_scripts 37 = .ok (.bipush 48, 2) := by decide +kernel
theorem dL_scripts_39 : decode cL_scripts 39 = .ok (.invokevirtual 107, 3) := by decide +kernel
theorem dL_scripts_42 : decode cL_scripts 42 = .ok (.pop, 1) := by decide +kernel
theorem dL_scripts_43 : decode cL_scripts 43 = .ok (.aload_n 0, 1) := by decide +kernel
theorem dL_scripts_44 : decode cL_scripts 44 = .ok (.bipush 120, 2) := by decide +kernel
theorem dL_scripts_46 : decode cL_scripts 46 = .ok (.invokevirtual 107, 3) := by decide +kernel
theorem dL_scripts_49 : decode cL_scripts 49 = .ok (.pop, 1) := by decide +kernel
theorem dL_scripts_50 : decode cL_scripts 50 = .ok (.aload_n 0, 1) := by decide +kernel
theorem dL_scripts_51 : decode cL_scripts 51 = .ok (.invokevirtual 104, 3) := by decide +kernel
theorem dL_scripts_54 : decode cL_scripts 54 = .ok (.bipush (-102), 2) := by decide +kernel
theorem dL_scripts_56 : decode cL_scripts 56 = .ok (.if_icmp .ne 7, 3) := by decide +kernel
theorem dL_scripts_59 : decode cL_scripts 59 = .ok (.iconst 1, 1) := by decide +kernel
theorem dL_scripts_60 : decode cL_scripts 60 = .ok (.goto 4, 3) := by decide +kernel
theorem dL_scripts_63 : decode cL_scripts 63 = .ok (.iconst 0, 1) := by decide +kernel
theorem dL_scripts_64 : decode cL_scripts 64 = .ok (.istore_n 3, 1) := by decide +kernel
theorem dL_scripts_65 : decode cL_scripts 65 = .ok (.aload_n 0, 1) := by decide +kernel
theorem dL_scripts_66 : decode cL_scripts 66 = .ok (.invokevirtual 101, 3) := by decide +kernel
theorem dL_scripts_69 : decode cL_scripts 69 = .ok (.pop, 1) := by decide +kernel
theorem dL_scripts_70 : decode cL_scripts 70 = .ok (.aload_n 0, 1) := by decide +kernel
theorem dL_scripts_71 : decode cL_scripts 71 = .ok (.iconst 0, 1) := by decide +kernel
theorem dL_scripts_72 : decode cL_scripts 72 = .ok (.iconst 0, 1) := by decide +kernel
theorem dL_scripts_73 : decode cL_scripts 73 = .ok (.invokevirtual 18, 3) := by decide +kernel
theorem dL_scripts_76 : decode cL_scripts 76 = .ok (.istore 4, 2) := by decide +kernel
theorem dL_scripts_78 : decode cL_scripts 78 = .ok (.aload_n 0, 1) := by decide +kernel
theorem dL_scripts_79 : decode cL_scripts 79 = .ok (.bipush 109, 2) := by decide +kernel
theorem dL_scripts_81 : decode cL_scripts 81 = .ok (.invokevirtual 107, 3) := by decide +kernel
theorem dL_scripts_84 : decode cL_scripts 84 = .ok (.pop, 1) := by decide +kernel
theorem dL_scripts_85 : decode cL_scripts 85 = .ok (.aload_n 0, 1) := by decide +kernel
theorem dL_scripts_86 : decode cL_scripts 86 = .ok (.bipush 48, 2) := by decide +kernel
theorem dL_scripts_88 : decode cL_scripts 88 = .ok (.invokevirtual 107, 3) := by decide +kernel
theorem dL_scripts_91 : decode cL_scripts 91 = .ok (.pop, 1) := by decide +kernel
theorem dL_scripts_92 : decode cL_scripts 92 = .ok (.aload_n 0, 1) := by decide +kernel
theorem dL_scripts_93 : decode cL_scripts 93 = .ok (.bipush 48, 2) := by decide +kernel
theorem dL_scripts_95 : decode cL_scripts 95 = .ok (.iload 4, 2) := by decide +kernel
theorem dL_scripts_97 : decode cL_scripts 97 = .ok (.iadd, 1) := by decide +kernel
theorem dL_scripts_98 : decode cL_scripts 98 = .ok (.i2c, 1) := by decide +kernel
theorem dL_scripts_99 : decode cL_scripts 99 = .ok (.invokevirtual 107, 3) := by decide +kernel
theorem dL_scripts_102 : decode cL_scripts 102 = .ok (.pop, 1) := by decide +kernel
theorem dL_scripts_103 : decode cL_scripts 103 = .ok (.aload_n 0, 1) := by decide +kernel
theorem dL_scripts_104 : decode cL_scripts 104 = .ok (.bipush 103, 2) := by decide +kernel
theorem dL_scripts_106 : decode cL_scripts 106 = .ok (.invokevirtual 107, 3) := by decide +kernel
theorem dL_scripts_109 : decode cL_scripts 109 = .ok (.pop, 1) := by decide +kernel
theorem dL_scripts_110 : decode cL_scripts 110 = .ok (.aload_n 0, 1) := by decide +kernel
theorem dL_scripts_111 : decode cL_scripts 111 = .ok (.bipush 49, 2) := by decide +kernel
theorem dL_scripts_113 : decode cL_scripts 113 = .ok (.invokevirtual 107, 3) := by decide +kernel
theorem dL_scripts_116 : decode cL_scripts 116 = .ok (.pop, 1) := by decide +kernel
theorem dL_scripts_117 : decode cL_scripts 117 = .ok (.aload_n 0, 1) := by decide +kernel
theorem dL_scripts_118 : decode cL_scripts 118 = .ok (.bipush 48, 2) := by decide +kernel
theorem dL_scripts_120 : decode cL_scripts 120 = .ok (.invokevirtual 107, 3) := by decide +kernel
theorem dL_scripts_123 : decode cL_scripts 123 = .ok (.pop, 1) := by decide +kernel
theorem dL_scripts_124 : decode cL_scripts 124 = .ok (.aload_n 0, 1) := by decide +kernel
theorem dL_scripts_125 : decode cL_scripts 125 = .ok (.bipush 115, 2) := by decide +kernel
theorem dL_scripts_127 : decode cL_scripts 127 = .ok (.invokevirtual 107, 3) := by decide +kernel
theorem dL_scripts_130 : decode cL_scripts 130 = .ok (.pop, 1) := by decide +kernel
theorem dL_scripts_131 : decode cL_scripts 131 = .ok (.aload_n 0, 1) := by decide +kernel
theorem dL_scripts_132 : decode cL_scripts 132 = .ok (.bipush 49, 2) := by decide +kernel
theorem dL_scripts_134 : decode cL_scripts 134 = .ok (.invokevirtual 107, 3) := by decide +kernel
theorem dL_scripts_137 : decode cL_scripts 137 = .ok (.pop, 1) := by decide +kernel
theorem dL_scripts_138 : decode cL_scripts 138 = .ok (.aload_n 0, 1) := by decide +kernel
theorem dL_scripts_139 : decode cL_scripts 139 = .ok (.bipush 49, 2) := by decide +kernel
theorem dL_scripts_141 : decode cL_scripts 141 = .ok (.invokevirtual 107, 3) := by decide +kernel
theorem dL_scripts_144 : decode cL_scripts 144 = .ok (.pop, 1) := by decide +kernel
theorem dL_scripts_145 : decode cL_scripts 145 = .ok (.aload_n 0, 1) := by decide +kernel
theorem dL_scripts_146 : decode cL_scripts 146 = .ok (.bipush 109, 2) := by decide +kernel
theorem dL_scripts_148 : decode cL_scripts 148 = .ok (.invokevirtual 107, 3) := by decide +kernel
theorem dL_scripts_151 : decode cL_scripts 151 = .ok (.pop, 1) := by decide +kernel
theorem dL_scripts_152 : decode cL_scripts 152 = .ok (.aload_n 0, 1) := by decide +kernel
theorem dL_scripts_153 : decode cL_scripts 153 = .ok (.bipush 48, 2) := by decide +kernel
theorem dL_scripts_155 : decode cL_scripts 155 = .ok (.invokevirtual 107, 3) := by decide +kernel
theorem dL_scripts_158 : decode cL_scripts 158 = .ok (.pop, 1) := by decide +kernel
theorem dL_scripts_159 : decode cL_scripts 159 = .ok (.aload_n 0, 1) := by decide +kernel
theorem dL_scripts_160 : decode cL_scripts 160 = .ok (.bipush 48, 2) := by decide +kernel
theorem dL_scripts_162 : decode cL_scripts 162 = .ok (.invokevirtual 107, 3) := by decide +kernel
theorem dL_scripts_165 : decode cL_scripts 165 = .ok (.pop, 1) := by decide +kernel
theorem dL_scripts_166 : decode cL_scripts 166 = .ok (.aload_n 0, 1) := by decide +kernel
theorem dL_scripts_167 : decode cL_scripts 167 = .ok (.invokevirtual 104, 3) := by decide +kernel
theorem dL_scripts_170 : decode cL_scripts 170 = .ok (.istore 5, 2) := by decide +kernel
theorem dL_scripts_172 : decode cL_scripts 172 = .ok (.aload_n 0, 1) := by decide +kernel
theorem dL_scripts_173 : decode cL_scripts 173 = .ok (.bipush 113, 2) := by decide +kernel
theorem dL_scripts_175 : decode cL_scripts 175 = .ok (.invokevirtual 107, 3) := by decide +kernel
theorem dL_scripts_178 : decode cL_scripts 178 = .ok (.pop, 1) := by decide +kernel
theorem dL_scripts_179 : decode cL_scripts 179 = .ok (.iload_n 2, 1) := by decide +kernel
theorem dL_scripts_180 : decode cL_scripts 180 = .ok (.ifCond .eq 37, 3) := by decide +kernel
theorem dL_scripts_183 : decode cL_scripts 183 = .ok (.iload_n 3, 1) := by decide +kernel
theorem dL_scripts_184 : decode cL_scripts 184 = .ok (.ifCond .eq 33, 3) := by decide +kernel
theorem dL_scripts_187 : decode cL_scripts 187 = .ok (.iload 5, 2) := by decide +kernel
theorem dL_scripts_189 : decode cL_scripts 189 = .ok (.iconst 2, 1) := by decide +kernel
theorem dL_scripts_190 : decode cL_scripts 190 = .ok (.if_icmp .ne 27, 3) := by decide +kernel
theorem dL_scripts_193 : decode cL_scripts 193 = .ok (.aload_n 0, 1) := by decide +kernel
theorem dL_scripts_194 : decode cL_scripts 194 = .ok (.iconst 0, 1) := by decide +kernel
theorem dL_scripts_195 : decode cL_scripts 195 = .ok (.iconst 0, 1) := by decide +kernel
theorem dL_scripts_196 : decode cL_scripts 196 = .ok (.invokevirtual 18, 3) := by decide +kernel
theorem dL_scripts_199 : decode cL_scripts 199 = .ok (.iload 4, 2) := by decide +kernel
theorem dL_scripts_201 : decode cL_scripts 201 = .ok (.if_icmp .ne 16, 3) := by decide +kernel
theorem dL_scripts_204 : decode cL_scripts 204 = .ok (.aload_n 0, 1) := by decide +kernel
theorem dL_scripts_205 : decode cL_scripts 205 = .ok (.invokevirtual 104, 3) := by decide +kernel
theorem dL_scripts_208 : decode cL_scripts 208 = .ok (.bipush (-112), 2) := by decide +kernel
theorem dL_scripts_210 : decode cL_scripts 210 = .ok (.if_icmp .ne 7, 3) := by decide +kernel
theorem dL_scripts_213 : decode cL_scripts 213 = .ok (.iconst 1, 1) := by decide +kernel
theorem dL_scripts_214 : decode cL_scripts 214 = .ok (.goto 4, 3) := by decide +kernel
theorem dL_scripts_217 : decode cL_scripts 217 = .ok (.iconst 0, 1) := by decide +kernel
theorem dL_scripts_218 : decode cL_scripts 218 = .ok (.ireturn, 1) := by decide +kernel
theorem dL_law_0 : decode cL_law 0 = .ok (.new 10, 3) := by decide +kernel
theorem dL_law_3 : decode cL_law 3 = .ok (.dup, 1) := by decide +kernel
theorem dL_law_4 : decode cL_law 4 = .ok (.invokespecial 111, 3) := by decide +kernel
theorem dL_law_7 : decode cL_law 7 = .ok (.astore_n 1, 1) := by decide +kernel
theorem dL_law_8 : decode cL_law 8 = .ok (.aload_n 0, 1) := by decide +kernel
theorem dL_law_9 : decode cL_law 9 = .ok (.iconst 0, 1) := by decide +kernel
theorem dL_law_10 : decode cL_law 10 = .ok (.invokestatic 112, 3) := by decide +kernel
theorem dL_law_13 : decode cL_law 13 = .ok (.istore_n 2, 1) := by decide +kernel
theorem dL_law_14 : decode cL_law 14 = .ok (.iconst 2, 1) := by decide +kernel
theorem dL_law_15 : decode cL_law 15 = .ok (.iload_n 2, 1) := by decide +kernel
theorem dL_law_16 : decode cL_law 16 = .ok (.iconst 4, 1) := by decide +kernel
theorem dL_law_17 : decode cL_law 17 = .ok (.invokestatic 46, 3) := by decide +kernel
theorem dL_law_20 : decode cL_law 20 = .ok (.iadd, 1) := by decide +kernel
theorem dL_law_21 : decode cL_law 21 = .ok (.istore_n 3, 1) := by decide +kernel
theorem dL_law_22 : decode cL_law 22 = .ok (.aload_n 1, 1) := by decide +kernel
theorem dL_law_23 : decode cL_law 23 = .ok (.iload_n 3, 1) := by decide +kernel
theorem dL_law_24 : decode cL_law 24 = .ok (.invokevirtual 95, 3) := by decide +kernel
theorem dL_law_27 : decode cL_law 27 = .ok (.iconst 3, 1) := by decide +kernel
theorem dL_law_28 : decode cL_law 28 = .ok (.if_icmp .ne 24, 3) := by decide +kernel
theorem dL_law_31 : decode cL_law 31 = .ok (.aload_n 1, 1) := by decide +kernel
theorem dL_law_32 : decode cL_law 32 = .ok (.iconst 1, 1) := by decide +kernel
theorem dL_law_33 : decode cL_law 33 = .ok (.invokevirtual 40, 3) := by decide +kernel
theorem dL_law_36 : decode cL_law 36 = .ok (.iconst 1, 1) := by decide +kernel
theorem dL_law_37 : decode cL_law 37 = .ok (.if_icmp .ne 15, 3) := by decide +kernel
theorem dL_law_40 : decode cL_law 40 = .ok (.aload_n 1, 1) := by decide +kernel
theorem dL_law_41 : decode cL_law 41 = .ok (.invokevirtual 92, 3) := by decide +kernel
theorem dL_law_44 : decode cL_law 44 = .ok (.iconst 1, 1) := by decide +kernel
theorem dL_law_45 : decode cL_law 45 = .ok (.iload_n 3, 1) := by decide +kernel
theorem dL_law_46 : decode cL_law 46 = .ok (.ishl, 1) := by decide +kernel
theorem dL_law_47 : decode cL_law 47 = .ok (.iconst 1, 1) := by decide +kernel
theorem dL_law_48 : decode cL_law 48 = .ok (.isub, 1) := by decide +kernel
theorem dL_law_49 : decode cL_law 49 = .ok (.if_icmp .eq 5, 3) := by decide +kernel
theorem dL_law_52 : decode cL_law 52 = .ok (.iconst 0, 1) := by decide +kernel
theorem dL_law_53 : decode cL_law 53 = .ok (.ireturn, 1) := by decide +kernel
theorem dL_law_54 : decode cL_law 54 = .ok (.iconst 0, 1) := by decide +kernel
theorem dL_law_55 : decode cL_law 55 = .ok (.istore 4, 2) := by decide +kernel
theorem dL_law_57 : decode cL_law 57 = .ok (.iload 4, 2) := by decide +kernel
theorem dL_law_59 : decode cL_law 59 = .ok (.bipush 50, 2) := by decide +kernel
theorem dL_law_61 : decode cL_law 61 = .ok (.if_icmp .ge 334, 3) := by decide +kernel
theorem dL_law_64 : decode cL_law 64 = .ok (.aload_n 0, 1) := by decide +kernel
theorem dL_law_65 : decode cL_law 65 = .ok (.iconst 1, 1) := by decide +kernel
theorem dL_law_66 : decode cL_law 66 = .ok (.iconst 2, 1) := by decide +kernel
theorem dL_law_67 : decode cL_law 67 = .ok (.iload 4, 2) := by decide +kernel
theorem dL_law_69 : decode cL_law 69 = .ok (.imul, 1) := by decide +kernel
theorem dL_law_70 : decode cL_law 70 = .ok (.iadd, 1) := by decide +kernel
theorem dL_law_71 : decode cL_law 71 = .ok (.invokestatic 112, 3) := by decide +kernel
theorem dL_law_74 : decode cL_law 74 = .ok (.istore 5, 2) := by decide +kernel
theorem dL_law_76 : decode cL_law 76 = .ok (.aload_n 0, 1) := by decide +kernel
theorem dL_law_77 : decode cL_law 77 = .ok (.iconst 2, 1) := by decide +kernel
theorem dL_law_78 : decode cL_law 78 = .ok (.iconst 2, 1) := by decide +kernel
theorem dL_law_79 : decode cL_law 79 = .ok (.iload 4, 2) := by decide +kernel
theorem dL_law_81 : decode cL_law 81 = .ok (.imul, 1) := by decide +kernel
theorem dL_law_82 : decode cL_law 82 = .ok (.iadd, 1) := by decide +kernel
theorem dL_law_83 : decode cL_law 83 = .ok (.invokestatic 112, 3) := by decide +kernel
theorem dL_law_86 : decode cL_law 86 = .ok (.istore 6, 2) := by decide +kernel
theorem dL_law_88 : decode cL_law 88 = .ok (.iload 6, 2) := by decide +kernel
theorem dL_law_90 : decode cL_law 90 = .ok (.bipush 8, 2) := by decide +kernel
theorem dL_law_92 : decode cL_law 92 = .ok (.ishr, 1) := by decide +kernel
theorem dL_law_93 : decode cL_law 93 = .ok (.iload_n 3, 1) := by decide +kernel
theorem dL_law_94 : decode cL_law 94 = .ok (.invokestatic 46, 3) := by decide +kernel
theorem dL_law_97 : decode cL_law 97 = .ok (.istore 7, 2) := by decide +kernel
theorem dL_law_99 : decode cL_law 99 = .ok (.iload 6, 2) := by decide +kernel
theorem dL_law_101 : decode cL_law 101 = .ok (.bipush 12, 2) := by decide +kernel
theorem dL_law_103 : decode cL_law 103 = .ok (.ishr, 1) := by decide +kernel
theorem dL_law_104 : decode cL_law 104 = .ok (.iload_n 3, 1) := by decide +kernel
theorem dL_law_105 : decode cL_law 105 = .ok (.invokestatic 46, 3) := by decide +kernel
theorem dL_law_108 : decode cL_law 108 = .ok (.istore 8, 2) := by decide +kernel
theorem dL_law_110 : decode cL_law 110 = .ok (.iload 5, 2) := by decide +kernel
theorem dL_law_112 : decode cL_law 112 = .ok (.bipush 10, 2) := by decide +kernel
theorem dL_law_114 : decode cL_law 114 = .ok (.invokestatic 46, 3) := by decide +kernel
theorem dL_law_117 : decode cL_law 117 = .ok (.istore 9, 2) := by decide +kernel
theorem dL_law_119 : decode cL_law 119 = .ok (.iload 9, 2) := by decide +kernel
theorem dL_law_121 : decode cL_law 121 = .ok (.iconst 5, 1) := by decide +kernel
theorem dL_law_122 : decode cL_law 122 = .ok (.if_icmp .ge 19, 3) := by decide +kernel
theorem dL_law_125 : decode cL_law 125 = .ok (.aload_n 1, 1) := by decide +kernel
theorem dL_law_126 : decode cL_law 126 = .ok (.iload 7, 2) := by decide +kernel
theorem dL_law_128 : decode cL_law 128 = .ok (.iload_n 3, 1) := by decide +kernel
theorem dL_law_129 : decode cL_law 129 = .ok (.iload 6, 2) := by decide +kernel
theorem dL_law_131 : decode cL_law 131 = .ok (.iconst 3, 1) := by decide +kernel
theorem dL_law_132 : decode cL_law 132 = .ok (.ishr, 1) := by decide +kernel
theorem dL_law_133 : decode cL_law 133 = .ok (.invokestatic 116, 3) := by decide +kernel
theorem dL_law_136 : decode cL_law 136 = .ok (.ifCond .ne 243, 3) := by decide +kernel
theorem dL_law_139 : decode cL_law 139 = .ok (.iconst 0, 1) := by decide +kernel
theorem dL_law_140 : decode cL_law 140 = .ok (.ireturn, 1) := by decide +kernel
theorem dL_law_141 : decode cL_law 141 = .ok (.iload 9, 2) := by decide +kernel
theorem dL_law_143 : decode cL_law 143 = .ok (.bipush 7, 2) := by decide +kernel
theorem dL_law_145 : decode cL_law 145 = .ok (.if_icmp .ge 21, 3) := by decide +kernel
theorem dL_law_148 : decode cL_law 148 = .ok (.aload_n 1, 1) := by decide +kernel
theorem dL_law_149 : decode cL_law 149 = .ok (.iload 7, 2) := by decide +kernel
theorem dL_law_151 : decode cL_law 151 = .ok (.iload 8, 2) := by decide +kernel
theorem dL_law_153 : decode cL_law 153 = .ok (.iload_n 3, 1) := by decide +kernel
theorem dL_law_154 : decode cL_law 154 = .ok (.iload 5, 2) := by decide +kernel
theorem dL_law_156 : decode cL_law 156 = .ok (.iconst 4, 1) := by decide +kernel
theorem dL_law_157 : decode cL_law 157 = .ok (.ishr, 1) := by decide +kernel
theorem dL_law_158 : decode cL_law 158 = .ok (.invokestatic 120, 3) := by decide +kernel
theorem dL_law_161 : decode cL_law 161 = .ok (.ifCond .ne 218, 3) := by decide +kernel
theorem dL_law_164 : decode cL_law 164 = .ok (.iconst 0, 1) := by decide +kernel
theorem dL_law_165 : decode cL_law 165 = .ok (.ireturn, 1) := by decide +kernel
theorem dL_law_166 : decode cL_law 166 = .ok (.iload 9, 2) := by decide +kernel
theorem dL_law_168 : decode cL_law 168 = .ok (.bipush 9, 2) := by decide +kernel
theorem dL_law_170 : decode cL_law 170 = .ok (.if_icmp .ge 25, 3) := by decide +kernel
theorem dL_law_173 : decode cL_law 173 = .ok (.iload 4, 2) := by decide +kernel
theorem dL_law_175 : decode cL_law 175 = .ok (.iconst 3, 1) := by decide +kernel
theorem dL_law_176 : decode cL_law 176 = .ok (.if_icmp .le 19, 3) := by decide +kernel
theorem dL_law_179 : decode cL_law 179 = .ok (.aload_n 1, 1) := by decide +kernel
theorem dL_law_180 : decode cL_law 180 = .ok (.iload_n 3, 1) := by decide +kernel
theorem dL_law_181 : decode cL_law 181 = .ok (.iload 5, 2) := by decide +kernel
theorem dL_law_183 : decode cL_law 183 = .ok (.iconst 4, 1) := by decide +kernel
theorem dL_law_184 : decode cL_law 184 = .ok (.ishr, 1) := by decide +kernel
theorem dL_law_185 : decode cL_law 185 = .ok (.iload 6, 2) := by decide +kernel
theorem dL_law_187 : decode cL_law 187 = .ok (.invokestatic 124, 3) := by decide +kernel
theorem dL_law_190 : decode cL_law 190 = .ok (.ifCond .ne 189, 3) := by decide +kernel
theorem dL_law_193 : decode cL_law 193 = .ok (.iconst 0, 1) := by decide +kernel
theorem dL_law_194 : decode cL_law 194 = .ok (.ireturn, 1) := by decide +kernel
theorem dL_law_195 : decode cL_law 195 = .ok (.iload 7, 2) := by decide +kernel
theorem dL_law_197 : decode cL_law 197 = .ok (.iload 8, 2) := by decide +kernel
theorem dL_law_199 : decode cL_law 199 = .ok (.if_icmp .eq 180, 3) := by decide +kernel
theorem dL_law_202 : decode cL_law 202 = .ok (.aload_n 1, 1) := by decide +kernel
theorem dL_law_203 : decode cL_law 203 = .ok (.iload 7, 2) := by decide +kernel
theorem dL_law_205 : decode cL_law 205 = .ok (.iconst 2, 1) := by decide +kernel
theorem dL_law_206 : decode cL_law 206 = .ok (.invokevirtual 18, 3) := by decide +kernel
theorem dL_law_209 : decode cL_law 209 = .ok (.iconst 1, 1) := by decide +kernel
theorem dL_law_210 : decode cL_law 210 = .ok (.if_icmp .ne 7, 3) := by decide +kernel
theorem dL_law_213 : decode cL_law 213 = .ok (.iconst 1, 1) := by decide +kernel
theorem dL_law_214 : decode cL_law 214 = .ok (.goto 4, 3) := by decide +kernel
theorem dL_law_217 : decode cL_law 217 = .ok (.iconst 0, 1) := by decide +kernel
theorem dL_law_218 : decode cL_law 218 = .ok (.istore 10, 2) := by decide +kernel
theorem dL_law_220 : decode cL_law 220 = .ok (.aload_n 1, 1) := by decide +kernel
theorem dL_law_221 : decode cL_law 221 = .ok (.iload 8, 2) := by decide +kernel
theorem dL_law_223 : decode cL_law 223 = .ok (.iconst 1, 1) := by decide +kernel
theorem dL_law_224 : decode cL_law 224 = .ok (.invokevirtual 18, 3) := by decide +kernel
theorem dL_law_227 : decode cL_law 227 = .ok (.istore 11, 2) := by decide +kernel
theorem dL_law_229 : decode cL_law 229 = .ok (.aload_n 1, 1) := by decide +kernel
theorem dL_law_230 : decode cL_law 230 = .ok (.iload 8, 2) := by decide +kernel
theorem dL_law_232 : decode cL_law 232 = .ok (.iconst 2, 1) := by decide +kernel
theorem dL_law_233 : decode cL_law 233 = .ok (.invokevirtual 18, 3) := by decide +kernel
theorem dL_law_236 : decode cL_law 236 = .ok (.iconst 1, 1) := by decide +kernel
theorem dL_law_237 : decode cL_law 237 = .ok (.if_icmp .ne 7, 3) := by decide +kernel
theorem dL_law_240 : decode cL_law 240 = .ok (.iconst 1, 1) := by decide +kernel
theorem dL_law_241 : decode cL_law 241 = .ok (.goto 4, 3) := by decide +kernel
theorem dL_law_244 : decode cL_law 244 = .ok (.iconst 0, 1) := by decide +kernel
theorem dL_law_245 : decode cL_law 245 = .ok (.istore 12, 2) := by decide +kernel
theorem dL_law_247 : decode cL_law 247 = .ok (.aload_n 1, 1) := by decide +kernel
theorem dL_law_248 : decode cL_law 248 = .ok (.iload 7, 2) := by decide +kernel
theorem dL_law_250 : decode cL_law 250 = .ok (.bipush 7, 2) := by decide +kernel
theorem dL_law_252 : decode cL_law 252 = .ok (.invokevirtual 18, 3) := by decide +kernel
theorem dL_law_255 : decode cL_law 255 = .ok (.istore 13, 2) := by decide +kernel
theorem dL_law_257 : decode cL_law 257 = .ok (.aload_n 1, 1) := by decide +kernel
theorem dL_law_258 : decode cL_law 258 = .ok (.iload 7, 2) := by decide +kernel
theorem dL_law_260 : decode cL_law 260 = .ok (.bipush 6, 2) := by decide +kernel
theorem dL_law_262 : decode cL_law 262 = .ok (.invokevirtual 18, 3) := by decide +kernel
theorem dL_law_265 : decode cL_law 265 = .ok (.istore 14, 2) := by decide +kernel
theorem dL_law_267 : decode cL_law 267 = .ok (.aload_n 1, 1) := by decide +kernel
theorem dL_law_268 : decode cL_law 268 = .ok (.iload 7, 2) := by decide +kernel
theorem dL_law_270 : decode cL_law 270 = .ok (.iload 8, 2) := by decide +kernel
theorem dL_law_272 : decode cL_law 272 = .ok (.invokevirtual 98, 3) := by decide +kernel
theorem dL_law_275 : decode cL_law 275 = .ok (.istore 15, 2) := by decide +kernel
theorem dL_law_277 : decode cL_law 277 = .ok (.iload 15, 2) := by decide +kernel
theorem dL_law_279 : decode cL_law 279 = .ok (.iload 10, 2) := by decide +kernel
theorem dL_law_281 : decode cL_law 281 = .ok (.ifCond .ne 9, 3) := by decide +kernel
theorem dL_law_284 : decode cL_law 284 = .ok (.sipush (-10003), 3) := by decide +kernel
theorem dL_law_287 : decode cL_law 287 = .ok (.goto 13, 3) := by decide +kernel
theorem dL_law_290 : decode cL_law 290 = .ok (.iload 11, 2) := by decide +kernel
theorem dL_law_292 : decode cL_law 292 = .ok (.ifCond .ne 7, 3) := by decide +kernel
theorem dL_law_295 : decode cL_law 295 = .ok (.iconst 1, 1) := by decide +kernel
theorem dL_law_296 : decode cL_law 296 = .ok (.goto 4, 3) := by decide +kernel
theorem dL_law_299 : decode cL_law 299 = .ok (.iconst 0, 1) := by decide +kernel
theorem dL_law_300 : decode cL_law 300 = .ok (.if_icmp .ne 29, 3) := by decide +kernel
theorem dL_law_303 : decode cL_law 303 = .ok (.aload_n 1, 1) := by decide +kernel
theorem dL_law_304 : decode cL_law 304 = .ok (.iload 7, 2) := by decide +kernel
theorem dL_law_306 : decode cL_law 306 = .ok (.bipush 6, 2) := by decide +kernel
theorem dL_law_308 : decode cL_law 308 = .ok (.invokevirtual 18, 3) := by decide +kernel
theorem dL_law_311 : decode cL_law 311 = .ok (.iload 14, 2) := by decide +kernel
theorem dL_law_313 : decode cL_law 313 = .ok (.iload 10, 2) := by decide +kernel
theorem dL_law_315 : decode cL_law 315 = .ok (.ifCond .eq 9, 3) := by decide +kernel
theorem dL_law_318 : decode cL_law 318 = .ok (.iconst 2, 1) := by decide +kernel
theorem dL_law_319 : decode cL_law 319 = .ok (.iload_n 3, 1) := by decide +kernel
theorem dL_law_320 : decode cL_law 320 = .ok (.imul, 1) := by decide +kernel
theorem dL_law_321 : decode cL_law 321 = .ok (.goto 4, 3) := by decide +kernel
theorem dL_law_324 : decode cL_law 324 = .ok (.iconst 0, 1) := by decide +kernel
theorem dL_law_325 : decode cL_law 325 = .ok (.iadd, 1) := by decide +kernel
theorem dL_law_326 : decode cL_law 326 = .ok (.if_icmp .eq 5, 3) := by decide +kernel
theorem dL_law_329 : decode cL_law 329 = .ok (.iconst 0, 1) := by decide +kernel
theorem dL_law_330 : decode cL_law 330 = .ok (.ireturn, 1) := by decide +kernel
theorem dL_law_331 : decode cL_law 331 = .ok (.iload 10, 2) := by decide +kernel
theorem dL_law_333 : decode cL_law 333 = .ok (.ifCond .eq 46, 3) := by decide +kernel
theorem dL_law_336 : decode cL_law 336 = .ok (.aload_n 1, 1) := by decide +kernel
theorem dL_law_337 : decode cL_law 337 = .ok (.iload 8, 2) := by decide +kernel
theorem dL_law_339 : decode cL_law 339 = .ok (.iconst 1, 1) := by decide +kernel
theorem dL_law_340 : decode cL_law 340 = .ok (.invokevirtual 18, 3) := by decide +kernel
theorem dL_law_343 : decode cL_law 343 = .ok (.iload 11, 2) := by decide +kernel
theorem dL_law_345 : decode cL_law 345 = .ok (.ifCond .ne 7, 3) := by decide +kernel
theorem dL_law_348 : decode cL_law 348 = .ok (.iconst 5, 1) := by decide +kernel
theorem dL_law_349 : decode cL_law 349 = .ok (.goto 5, 3) := by decide +kernel
theorem dL_law_352 : decode cL_law 352 = .ok (.iload 11, 2) := by decide +kernel
theorem dL_law_354 : decode cL_law 354 = .ok (.if_icmp .ne 23, 3) := by decide +kernel
theorem dL_law_357 : decode cL_law 357 = .ok (.iload 12, 2) := by decide +kernel
theorem dL_law_359 : decode cL_law 359 = .ok (.ifCond .ne 20, 3) := by decide +kernel
theorem dL_law_362 : decode cL_law 362 = .ok (.aload_n 1, 1) := by decide +kernel
theorem dL_law_363 : decode cL_law 363 = .ok (.iload 8, 2) := by decide +kernel
theorem dL_law_365 : decode cL_law 365 = .ok (.bipush 7, 2) := by decide +kernel
theorem dL_law_367 : decode cL_law 367 = .ok (.invokevirtual 18, 3) := by decide +kernel
theorem dL_law_370 : decode cL_law 370 = .ok (.iload 13, 2) := by decide +kernel
theorem dL_law_372 : decode cL_law 372 = .ok (.iconst 1, 1) := by decide +kernel
theorem dL_law_373 : decode cL_law 373 = .ok (.iadd, 1) := by decide +kernel
theorem dL_law_374 : decode cL_law 374 = .ok (.if_icmp .eq 5, 3) := by decide +kernel
theorem dL_law_377 : decode cL_law 377 = .ok (.iconst 0, 1) := by decide +kernel
theorem dL_law_378 : decode cL_law 378 = .ok (.ireturn, 1) := by decide +kernel
theorem dL_law_379 : decode cL_law 379 = .ok (.aload_n 1, 1) := by decide +kernel
theorem dL_law_380 : decode cL_law 380 = .ok (.iload_n 3, 1) := by decide +kernel
theorem dL_law_381 : decode cL_law 381 = .ok (.invokestatic 127, 3) := by decide +kernel
theorem dL_law_384 : decode cL_law 384 = .ok (.ifCond .ne 5, 3) := by decide +kernel
theorem dL_law_387 : decode cL_law 387 = .ok (.iconst 0, 1) := by decide +kernel
theorem dL_law_388 : decode cL_law 388 = .ok (.ireturn, 1) := by decide +kernel
theorem dL_law_389 : decode cL_law 389 = .ok (.iinc 4 1, 3) := by decide +kernel
theorem dL_law_392 : decode cL_law 392 = .ok (.goto (-335), 3) := by decide +kernel
theorem dL_law_395 : decode cL_law 395 = .ok (.aload_n 1, 1) := by decide +kernel
theorem dL_law_396 : decode cL_law 396 = .ok (.iload_n 3, 1) := by decide +kernel
theorem dL_law_397 : decode cL_law 397 = .ok (.invokestatic 131, 3) := by decide +kernel
theorem dL_law_400 : decode cL_law 400 = .ok (.ifCond .eq 15, 3) := by decide +kernel
theorem dL_law_403 : decode cL_law 403 = .ok (.aload_n 1, 1) := by decide +kernel
theorem dL_law_404 : decode cL_law 404 = .ok (.iload_n 3, 1) := by decide +kernel
theorem dL_law_405 : decode cL_law 405 = .ok (.invokestatic 134, 3) := by decide +kernel
theorem dL_law_408 : decode cL_law 408 = .ok (.ifCond .eq 7, 3) := by decide +kernel
theorem dL_law_411 : decode cL_law 411 = .ok (.iconst 1, 1) := by decide +kernel
theorem dL_law_412 : decode cL_law 412 = .ok (.goto 4, 3) := by decide +kernel
theorem dL_law_415 : decode cL_law 415 = .ok (.iconst 0, 1) := by decide +kernel
theorem dL_law_416 : decode cL_law 416 = .ok (.ireturn, 1) := by decide +kernel
