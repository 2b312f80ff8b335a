theorem dL_cell_0 : decode bL_cell 0 = .ok (.iload_n 1, 1) := by decide +kernel
theorem dL_cell_1 : decode bL_cell 1 = .ok (.aload_n 0, 1) := by decide +kernel
theorem dL_cell_2 : decode bL_cell 2 = .ok (.arraylength, 1) := by decide +kernel
theorem dL_cell_3 : decode bL_cell 3 = .ok (.if_icmp .ge 9, 3) := by decide +kernel
theorem dL_cell_6 : decode bL_cell 6 = .ok (.aload_n 0, 1) := by decide +kernel
theorem dL_cell_7 : decode bL_cell 7 = .ok (.iload_n 1, 1) := by decide +kernel
theorem dL_cell_8 : decode bL_cell 8 = .ok (.iaload, 1) := by decide +kernel
theorem dL_cell_9 : decode bL_cell 9 = .ok (.goto 4, 3) := by decide +kernel
theorem dL_cell_12 : decode bL_cell 12 = .ok (.iconst 0, 1) := by decide +kernel
theorem dL_cell_13 : decode bL_cell 13 = .ok (.ireturn, 1) := by decide +kernel
theorem dL_bay_0 : decode bL_bay 0 = .ok (.aload_n 3, 1) := by decide +kernel
theorem dL_bay_1 : decode bL_bay 1 = .ok (.iconst 0, 1) := by decide +kernel
theorem dL_bay_2 : decode bL_bay 2 = .ok (.aload_n 0, 1) := by decide +kernel
theorem dL_bay_3 : decode bL_bay 3 = .ok (.iload_n 1, 1) := by decide +kernel
theorem dL_bay_4 : decode bL_bay 4 = .ok (.iload_n 2, 1) := by decide +kernel
theorem dL_bay_5 : decode bL_bay 5 = .ok (.invokevirtual 7, 3) := by decide +kernel
theorem dL_bay_8 : decode bL_bay 8 = .ok (.i2l, 1) := by decide +kernel
theorem dL_bay_9 : decode bL_bay 9 = .ok (.lastore, 1) := by decide +kernel
theorem dL_bay_10 : decode bL_bay 10 = .ok (.goto 11, 3) := by decide +kernel
theorem dL_bay_13 : decode bL_bay 13 = .ok (.astore 4, 2) := by decide +kernel
theorem dL_bay_15 : decode bL_bay 15 = .ok (.iconst 1, 1) := by decide +kernel
theorem dL_bay_16 : decode bL_bay 16 = .ok (.ireturn, 1) := by decide +kernel
theorem dL_bay_17 : decode bL_bay 17 = .ok (.astore 4, 2) := by decide +kernel
theorem dL_bay_19 : decode bL_bay 19 = .ok (.iconst 2, 1) := by decide +kernel
theorem dL_bay_20 : decode bL_bay 20 = .ok (.ireturn, 1) := by decide +kernel
theorem dL_bay_21 : decode bL_bay 21 = .ok (.iconst 0, 1) := by decide +kernel
theorem dL_bay_22 : decode bL_bay 22 = .ok (.ireturn, 1) := by decide +kernel
theorem dL_rate_0 : decode bL_rate 0 = .ok (.aload 4, 2) := by decide +kernel
theorem dL_rate_2 : decode bL_rate 2 = .ok (.iconst 0, 1) := by decide +kernel
theorem dL_rate_3 : decode bL_rate 3 = .ok (.aload_n 0, 1) := by decide +kernel
theorem dL_rate_4 : decode bL_rate 4 = .ok (.iload_n 1, 1) := by decide +kernel
theorem dL_rate_5 : decode bL_rate 5 = .ok (.iload_n 2, 1) := by decide +kernel
theorem dL_rate_6 : decode bL_rate 6 = .ok (.iload_n 3, 1) := by decide +kernel
theorem dL_rate_7 : decode bL_rate 7 = .ok (.invokevirtual 17, 3) := by decide +kernel
theorem dL_rate_10 : decode bL_rate 10 = .ok (.ifCond .eq 7, 3) := by decide +kernel
theorem dL_rate_13 : decode bL_rate 13 = .ok (.lconst 1, 1) := by decide +kernel
theorem dL_rate_14 : decode bL_rate 14 = .ok (.goto 4, 3) := by decide +kernel
theorem dL_rate_17 : decode bL_rate 17 = .ok (.lconst 0, 1) := by decide +kernel
theorem dL_rate_18 : decode bL_rate 18 = .ok (.lastore, 1) := by decide +kernel
theorem dL_rate_19 : decode bL_rate 19 = .ok (.goto 11, 3) := by decide +kernel
theorem dL_rate_22 : decode bL_rate 22 = .ok (.astore 5, 2) := by decide +kernel
theorem dL_rate_24 : decode bL_rate 24 = .ok (.iconst 1, 1) := by decide +kernel
theorem dL_rate_25 : decode bL_rate 25 = .ok (.ireturn, 1) := by decide +kernel
theorem dL_rate_26 : decode bL_rate 26 = .ok (.astore 5, 2) := by decide +kernel
theorem dL_rate_28 : decode bL_rate 28 = .ok (.iconst 2, 1) := by decide +kernel
theorem dL_rate_29 : decode bL_rate 29 = .ok (.ireturn, 1) := by decide +kernel
theorem dL_rate_30 : decode bL_rate 30 = .ok (.iconst 0, 1) := by decide +kernel
theorem dL_rate_31 : decode bL_rate 31 = .ok (.ireturn, 1) := by decide +kernel
theorem dL_works_0 : decode bL_works 0 = .ok (.aload_n 3, 1) := by decide +kernel
theorem dL_works_1 : decode bL_works 1 = .ok (.iconst 0, 1) := by decide +kernel
theorem dL_works_2 : decode bL_works 2 = .ok (.aload_n 0, 1) := by decide +kernel
theorem dL_works_3 : decode bL_works 3 = .ok (.iload_n 1, 1) := by decide +kernel
theorem dL_works_4 : decode bL_works 4 = .ok (.iload_n 2, 1) := by decide +kernel
theorem dL_works_5 : decode bL_works 5 = .ok (.invokevirtual 23, 3) := by decide +kernel
theorem dL_works_8 : decode bL_works 8 = .ok (.i2l, 1) := by decide +kernel
theorem dL_works_9 : decode bL_works 9 = .ok (.lastore, 1) := by decide +kernel
theorem dL_works_10 : decode bL_works 10 = .ok (.goto 11, 3) := by decide +kernel
theorem dL_works_13 : decode bL_works 13 = .ok (.astore 4, 2) := by decide +kernel
theorem dL_works_15 : decode bL_works 15 = .ok (.iconst 1, 1) := by decide +kernel
theorem dL_works_16 : decode bL_works 16 = .ok (.ireturn, 1) := by decide +kernel
theorem dL_works_17 : decode bL_works 17 = .ok (.astore 4, 2) := by decide +kernel
theorem dL_works_19 : decode bL_works 19 = .ok (.iconst 2, 1) := by decide +kernel
theorem dL_works_20 : decode bL_works 20 = .ok (.ireturn, 1) := by decide +kernel
theorem dL_works_21 : decode bL_works 21 = .ok (.iconst 0, 1) := by decide +kernel
theorem dL_works_22 : decode bL_works 22 = .ok (.ireturn, 1) := by decide +kernel
theorem dL_where_0 : decode bL_where 0 = .ok (.aload_n 3, 1) := by decide +kernel
theorem dL_where_1 : decode bL_where 1 = .ok (.iconst 0, 1) := by decide +kernel
theorem dL_where_2 : decode bL_where 2 = .ok (.aload_n 0, 1) := by decide +kernel
theorem dL_where_3 : decode bL_where 3 = .ok (.iload_n 1, 1) := by decide +kernel
theorem dL_where_4 : decode bL_where 4 = .ok (.iload_n 2, 1) := by decide +kernel
theorem dL_where_5 : decode bL_where 5 = .ok (.invokevirtual 28, 3) := by decide +kernel
theorem dL_where_8 : decode bL_where 8 = .ok (.i2l, 1) := by decide +kernel
theorem dL_where_9 : decode bL_where 9 = .ok (.lastore, 1) := by decide +kernel
theorem dL_where_10 : decode bL_where 10 = .ok (.goto 11, 3) := by decide +kernel
theorem dL_where_13 : decode bL_where 13 = .ok (.astore 4, 2) := by decide +kernel
theorem dL_where_15 : decode bL_where 15 = .ok (.iconst 1, 1) := by decide +kernel
theorem dL_where_16 : decode bL_where 16 = .ok (.ireturn, 1) := by decide +kernel
theorem dL_where_17 : decode bL_where 17 = .ok (.astore 4, 2) := by decide +kernel
theorem dL_where_19 : decode bL_where 19 = .ok (.iconst 2, 1) := by decide +kernel
theorem dL_where_20 : decode bL_where 20 = .ok (.ireturn, 1) := by decide +kernel
theorem dL_where_21 : decode bL_where 21 = .ok (.iconst 0, 1) := by decide +kernel
theorem dL_where_22 : decode bL_where 22 = .ok (.ireturn, 1) := by decide +kernel
theorem dL_fails_0 : decode bL_fails 0 = .ok (.aload_n 3, 1) := by decide +kernel
theorem dL_fails_1 : decode bL_fails 1 = .ok (.iconst 0, 1) := by decide +kernel
theorem dL_fails_2 : decode bL_fails 2 = .ok (.aload_n 0, 1) := by decide +kernel
theorem dL_fails_3 : decode bL_fails 3 = .ok (.iload_n 1, 1) := by decide +kernel
theorem dL_fails_4 : decode bL_fails 4 = .ok (.iload_n 2, 1) := by decide +kernel
theorem dL_fails_5 : decode bL_fails 5 = .ok (.invokevirtual 31, 3) := by decide +kernel
theorem dL_fails_8 : decode bL_fails 8 = .ok (.i2l, 1) := by decide +kernel
theorem dL_fails_9 : decode bL_fails 9 = .ok (.lastore, 1) := by decide +kernel
theorem dL_fails_10 : decode bL_fails 10 = .ok (.goto 15, 3) := by decide +kernel
theorem dL_fails_13 : decode bL_fails 13 = .ok (.astore 4, 2) := by decide +kernel
theorem dL_fails_15 : decode bL_fails 15 = .ok (.iconst 1, 1) := by decide +kernel
theorem dL_fails_16 : decode bL_fails 16 = .ok (.ireturn, 1) := by decide +kernel
theorem dL_fails_17 : decode bL_fails 17 = .ok (.astore 4, 2) := by decide +kernel
theorem dL_fails_19 : decode bL_fails 19 = .ok (.iconst 2, 1) := by decide +kernel
theorem dL_fails_20 : decode bL_fails 20 = .ok (.ireturn, 1) := by decide +kernel
theorem dL_fails_21 : decode bL_fails 21 = .ok (.astore 4, 2) := by decide +kernel
theorem dL_fails_23 : decode bL_fails 23 = .ok (.iconst 3, 1) := by decide +kernel
theorem dL_fails_24 : decode bL_fails 24 = .ok (.ireturn, 1) := by decide +kernel
theorem dL_fails_25 : decode bL_fails 25 = .ok (.iconst 0, 1) := by decide +kernel
theorem dL_fails_26 : decode bL_fails 26 = .ok (.ireturn, 1) := by decide +kernel
theorem dL_row_0 : decode bL_row 0 = .ok (.aload_n 3, 1) := by decide +kernel
theorem dL_row_1 : decode bL_row 1 = .ok (.iconst 0, 1) := by decide +kernel
theorem dL_row_2 : decode bL_row 2 = .ok (.aload_n 0, 1) := by decide +kernel
theorem dL_row_3 : decode bL_row 3 = .ok (.iload_n 1, 1) := by decide +kernel
theorem dL_row_4 : decode bL_row 4 = .ok (.iload_n 2, 1) := by decide +kernel
theorem dL_row_5 : decode bL_row 5 = .ok (.invokevirtual 34, 3) := by decide +kernel
theorem dL_row_8 : decode bL_row 8 = .ok (.i2l, 1) := by decide +kernel
theorem dL_row_9 : decode bL_row 9 = .ok (.lastore, 1) := by decide +kernel
theorem dL_row_10 : decode bL_row 10 = .ok (.goto 11, 3) := by decide +kernel
theorem dL_row_13 : decode bL_row 13 = .ok (.astore 4, 2) := by decide +kernel
theorem dL_row_15 : decode bL_row 15 = .ok (.iconst 1, 1) := by decide +kernel
theorem dL_row_16 : decode bL_row 16 = .ok (.ireturn, 1) := by decide +kernel
theorem dL_row_17 : decode bL_row 17 = .ok (.astore 4, 2) := by decide +kernel
theorem dL_row_19 : decode bL_row 19 = .ok (.iconst 2, 1) := by decide +kernel
theorem dL_row_20 : decode bL_row 20 = .ok (.ireturn, 1) := by decide +kernel
theorem dL_row_21 : decode bL_row 21 = .ok (.iconst 0, 1) := by decide +kernel
theorem dL_row_22 : decode bL_row 22 = .ok (.ireturn, 1) := by decide +kernel
theorem dL_look_0 : decode bL_look 0 = .ok (.aload_n 3, 1) := by decide +kernel
theorem dL_look_1 : decode bL_look 1 = .ok (.iconst 0, 1) := by decide +kernel
theorem dL_look_2 : decode bL_look 2 = .ok (.aload_n 0, 1) := by decide +kernel
theorem dL_look_3 : decode bL_look 3 = .ok (.iload_n 1, 1) := by decide +kernel
theorem dL_look_4 : decode bL_look 4 = .ok (.iload_n 2, 1) := by decide +kernel
theorem dL_look_5 : decode bL_look 5 = .ok (.invokevirtual 37, 3) := by decide +kernel
theorem dL_look_8 : decode bL_look 8 = .ok (.i2l, 1) := by decide +kernel
theorem dL_look_9 : decode bL_look 9 = .ok (.lastore, 1) := by decide +kernel
theorem dL_look_10 : decode bL_look 10 = .ok (.goto 7, 3) := by decide +kernel
theorem dL_look_13 : decode bL_look 13 = .ok (.astore 4, 2) := by decide +kernel
theorem dL_look_15 : decode bL_look 15 = .ok (.iconst 1, 1) := by decide +kernel
theorem dL_look_16 : decode bL_look 16 = .ok (.ireturn, 1) := by decide +kernel
theorem dL_look_17 : decode bL_look 17 = .ok (.iconst 0, 1) := by decide +kernel
theorem dL_look_18 : decode bL_look 18 = .ok (.ireturn, 1) := by decide +kernel
theorem dL_law_0 : decode code 0 = .ok (.new 8, 3) := by decide +kernel
theorem dL_law_3 : decode code 3 = .ok (.dup, 1) := by decide +kernel
theorem dL_law_4 : decode code 4 = .ok (.aload_n 0, 1) := by decide +kernel
theorem dL_law_5 : decode code 5 = .ok (.iconst 0, 1) := by decide +kernel
theorem dL_law_6 : decode code 6 = .ok (.invokestatic 40, 3) := by decide +kernel
theorem dL_law_9 : decode code 9 = .ok (.aload_n 0, 1) := by decide +kernel
theorem dL_law_10 : decode code 10 = .ok (.iconst 1, 1) := by decide +kernel
theorem dL_law_11 : decode code 11 = .ok (.invokestatic 40, 3) := by decide +kernel
theorem dL_law_14 : decode code 14 = .ok (.invokespecial 46, 3) := by decide +kernel
theorem dL_law_17 : decode code 17 = .ok (.astore_n 1, 1) := by decide +kernel
theorem dL_law_18 : decode code 18 = .ok (.new 49, 3) := by decide +kernel
theorem dL_law_21 : decode code 21 = .ok (.dup, 1) := by decide +kernel
theorem dL_law_22 : decode code 22 = .ok (.aload_n 0, 1) := by decide +kernel
theorem dL_law_23 : decode code 23 = .ok (.iconst 0, 1) := by decide +kernel
theorem dL_law_24 : decode code 24 = .ok (.invokestatic 40, 3) := by decide +kernel
theorem dL_law_27 : decode code 27 = .ok (.aload_n 0, 1) := by decide +kernel
theorem dL_law_28 : decode code 28 = .ok (.iconst 1, 1) := by decide +kernel
theorem dL_law_29 : decode code 29 = .ok (.invokestatic 40, 3) := by decide +kernel
theorem dL_law_32 : decode code 32 = .ok (.invokespecial 51, 3) := by decide +kernel
theorem dL_law_35 : decode code 35 = .ok (.astore_n 2, 1) := by decide +kernel
theorem dL_law_36 : decode code 36 = .ok (.iconst 1, 1) := by decide +kernel
theorem dL_law_37 : decode code 37 = .ok (.newarray .long, 2) := by decide +kernel
theorem dL_law_39 : decode code 39 = .ok (.astore_n 3, 1) := by decide +kernel
theorem dL_law_40 : decode code 40 = .ok (.iconst 2, 1) := by decide +kernel
theorem dL_law_41 : decode code 41 = .ok (.istore 4, 2) := by decide +kernel
theorem dL_law_43 : decode code 43 = .ok (.iload 4, 2) := by decide +kernel
theorem dL_law_45 : decode code 45 = .ok (.aload_n 0, 1) := by decide +kernel
theorem dL_law_46 : decode code 46 = .ok (.arraylength, 1) := by decide +kernel
theorem dL_law_47 : decode code 47 = .ok (.iconst 4, 1) := by decide +kernel
theorem dL_law_48 : decode code 48 = .ok (.isub, 1) := by decide +kernel
theorem dL_law_49 : decode code 49 = .ok (.if_icmp .gt 644, 3) := by decide +kernel
theorem dL_law_52 : decode code 52 = .ok (.aload_n 0, 1) := by decide +kernel
theorem dL_law_53 : decode code 53 = .ok (.iload 4, 2) := by decide +kernel
theorem dL_law_55 : decode code 55 = .ok (.iaload, 1) := by decide +kernel
theorem dL_law_56 : decode code 56 = .ok (.bipush 15, 2) := by decide +kernel
theorem dL_law_58 : decode code 58 = .ok (.iand, 1) := by decide +kernel
theorem dL_law_59 : decode code 59 = .ok (.tableswitch 628 0 10 #[57, 125, 212, 237, 250, 318, 386, 454, 467, 535, 603], 57) := by decide +kernel
theorem dL_law_116 : decode code 116 = .ok (.aload_n 1, 1) := by decide +kernel
theorem dL_law_117 : decode code 117 = .ok (.aload_n 0, 1) := by decide +kernel
theorem dL_law_118 : decode code 118 = .ok (.iload 4, 2) := by decide +kernel
theorem dL_law_120 : decode code 120 = .ok (.iconst 1, 1) := by decide +kernel
theorem dL_law_121 : decode code 121 = .ok (.iadd, 1) := by decide +kernel
theorem dL_law_122 : decode code 122 = .ok (.iaload, 1) := by decide +kernel
theorem dL_law_123 : decode code 123 = .ok (.aload_n 0, 1) := by decide +kernel
theorem dL_law_124 : decode code 124 = .ok (.iload 4, 2) := by decide +kernel
theorem dL_law_126 : decode code 126 = .ok (.iconst 2, 1) := by decide +kernel
theorem dL_law_127 : decode code 127 = .ok (.iadd, 1) := by decide +kernel
theorem dL_law_128 : decode code 128 = .ok (.iaload, 1) := by decide +kernel
theorem dL_law_129 : decode code 129 = .ok (.aload_n 3, 1) := by decide +kernel
theorem dL_law_130 : decode code 130 = .ok (.invokestatic 52, 3) := by decide +kernel
theorem dL_law_133 : decode code 133 = .ok (.istore 5, 2) := by decide +kernel
theorem dL_law_135 : decode code 135 = .ok (.aload_n 2, 1) := by decide +kernel
theorem dL_law_136 : decode code 136 = .ok (.aload_n 0, 1) := by decide +kernel
theorem dL_law_137 : decode code 137 = .ok (.iload 4, 2) := by decide +kernel
theorem dL_law_139 : decode code 139 = .ok (.iconst 1, 1) := by decide +kernel
theorem dL_law_140 : decode code 140 = .ok (.iadd, 1) := by decide +kernel
theorem dL_law_141 : decode code 141 = .ok (.iaload, 1) := by decide +kernel
theorem dL_law_142 : decode code 142 = .ok (.aload_n 0, 1) := by decide +kernel
theorem dL_law_143 : decode code 143 = .ok (.iload 4, 2) := by decide +kernel
theorem dL_law_145 : decode code 145 = .ok (.iconst 2, 1) := by decide +kernel
theorem dL_law_146 : decode code 146 = .ok (.iadd, 1) := by decide +kernel
theorem dL_law_147 : decode code 147 = .ok (.iaload, 1) := by decide +kernel
theorem dL_law_148 : decode code 148 = .ok (.invokevirtual 55, 3) := by decide +kernel
theorem dL_law_151 : decode code 151 = .ok (.istore 6, 2) := by decide +kernel
theorem dL_law_153 : decode code 153 = .ok (.aload_n 2, 1) := by decide +kernel
theorem dL_law_154 : decode code 154 = .ok (.invokevirtual 56, 3) := by decide +kernel
theorem dL_law_157 : decode code 157 = .ok (.iload 5, 2) := by decide +kernel
theorem dL_law_159 : decode code 159 = .ok (.if_icmp .eq 5, 3) := by decide +kernel
theorem dL_law_162 : decode code 162 = .ok (.iconst 0, 1) := by decide +kernel
theorem dL_law_163 : decode code 163 = .ok (.ireturn, 1) := by decide +kernel
theorem dL_law_164 : decode code 164 = .ok (.iload 5, 2) := by decide +kernel
theorem dL_law_166 : decode code 166 = .ok (.ifCond .ne 15, 3) := by decide +kernel
theorem dL_law_169 : decode code 169 = .ok (.aload_n 3, 1) := by decide +kernel
theorem dL_law_170 : decode code 170 = .ok (.iconst 0, 1) := by decide +kernel
theorem dL_law_171 : decode code 171 = .ok (.laload, 1) := by decide +kernel
theorem dL_law_172 : decode code 172 = .ok (.iload 6, 2) := by decide +kernel
theorem dL_law_174 : decode code 174 = .ok (.i2l, 1) := by decide +kernel
theorem dL_law_175 : decode code 175 = .ok (.lcmp, 1) := by decide +kernel
theorem dL_law_176 : decode code 176 = .ok (.ifCond .eq 5, 3) := by decide +kernel
theorem dL_law_179 : decode code 179 = .ok (.iconst 0, 1) := by decide +kernel
theorem dL_law_180 : decode code 180 = .ok (.ireturn, 1) := by decide +kernel
theorem dL_law_181 : decode code 181 = .ok (.goto 506, 3) := by decide +kernel
theorem dL_law_184 : decode code 184 = .ok (.aload_n 1, 1) := by decide +kernel
theorem dL_law_185 : decode code 185 = .ok (.aload_n 0, 1) := by decide +kernel
theorem dL_law_186 : decode code 186 = .ok (.iload 4, 2) := by decide +kernel
theorem dL_law_188 : decode code 188 = .ok (.iconst 1, 1) := by decide +kernel
theorem dL_law_189 : decode code 189 = .ok (.iadd, 1) := by decide +kernel
theorem dL_law_190 : decode code 190 = .ok (.iaload, 1) := by decide +kernel
theorem dL_law_191 : decode code 191 = .ok (.aload_n 0, 1) := by decide +kernel
theorem dL_law_192 : decode code 192 = .ok (.iload 4, 2) := by decide +kernel
theorem dL_law_194 : decode code 194 = .ok (.iconst 2, 1) := by decide +kernel
theorem dL_law_195 : decode code 195 = .ok (.iadd, 1) := by decide +kernel
theorem dL_law_196 : decode code 196 = .ok (.iaload, 1) := by decide +kernel
theorem dL_law_197 : decode code 197 = .ok (.aload_n 0, 1) := by decide +kernel
theorem dL_law_198 : decode code 198 = .ok (.iload 4, 2) := by decide +kernel
theorem dL_law_200 : decode code 200 = .ok (.iconst 3, 1) := by decide +kernel
theorem dL_law_201 : decode code 201 = .ok (.iadd, 1) := by decide +kernel
theorem dL_law_202 : decode code 202 = .ok (.iaload, 1) := by decide +kernel
theorem dL_law_203 : decode code 203 = .ok (.aload_n 3, 1) := by decide +kernel
theorem dL_law_204 : decode code 204 = .ok (.invokestatic 60, 3) := by decide +kernel
theorem dL_law_207 : decode code 207 = .ok (.istore 5, 2) := by decide +kernel
theorem dL_law_209 : decode code 209 = .ok (.aload_n 2, 1) := by decide +kernel
theorem dL_law_210 : decode code 210 = .ok (.aload_n 0, 1) := by decide +kernel
theorem dL_law_211 : decode code 211 = .ok (.iload 4, 2) := by decide +kernel
theorem dL_law_213 : decode code 213 = .ok (.iconst 1, 1) := by decide +kernel
theorem dL_law_214 : decode code 214 = .ok (.iadd, 1) := by decide +kernel
theorem dL_law_215 : decode code 215 = .ok (.iaload, 1) := by decide +kernel
theorem dL_law_216 : decode code 216 = .ok (.aload_n 0, 1) := by decide +kernel
theorem dL_law_217 : decode code 217 = .ok (.iload 4, 2) := by decide +kernel
theorem dL_law_219 : decode code 219 = .ok (.iconst 2, 1) := by decide +kernel
theorem dL_law_220 : decode code 220 = .ok (.iadd, 1) := by decide +kernel
theorem dL_law_221 : decode code 221 = .ok (.iaload, 1) := by decide +kernel
theorem dL_law_222 : decode code 222 = .ok (.aload_n 0, 1) := by decide +kernel
theorem dL_law_223 : decode code 223 = .ok (.iload 4, 2) := by decide +kernel
theorem dL_law_225 : decode code 225 = .ok (.iconst 3, 1) := by decide +kernel
theorem dL_law_226 : decode code 226 = .ok (.iadd, 1) := by decide +kernel
theorem dL_law_227 : decode code 227 = .ok (.iaload, 1) := by decide +kernel
theorem dL_law_228 : decode code 228 = .ok (.invokevirtual 63, 3) := by decide +kernel
theorem dL_law_231 : decode code 231 = .ok (.istore 6, 2) := by decide +kernel
theorem dL_law_233 : decode code 233 = .ok (.aload_n 2, 1) := by decide +kernel
theorem dL_law_234 : decode code 234 = .ok (.invokevirtual 56, 3) := by decide +kernel
theorem dL_law_237 : decode code 237 = .ok (.iload 5, 2) := by decide +kernel
theorem dL_law_239 : decode code 239 = .ok (.if_icmp .eq 5, 3) := by decide +kernel
theorem dL_law_242 : decode code 242 = .ok (.iconst 0, 1) := by decide +kernel
theorem dL_law_243 : decode code 243 = .ok (.ireturn, 1) := by decide +kernel
theorem dL_law_244 : decode code 244 = .ok (.iload 5, 2) := by decide +kernel
theorem dL_law_246 : decode code 246 = .ok (.ifCond .ne 22, 3) := by decide +kernel
theorem dL_law_249 : decode code 249 = .ok (.aload_n 3, 1) := by decide +kernel
theorem dL_law_250 : decode code 250 = .ok (.iconst 0, 1) := by decide +kernel
theorem dL_law_251 : decode code 251 = .ok (.laload, 1) := by decide +kernel
theorem dL_law_252 : decode code 252 = .ok (.iload 6, 2) := by decide +kernel
theorem dL_law_254 : decode code 254 = .ok (.ifCond .eq 7, 3) := by decide +kernel
theorem dL_law_257 : decode code 257 = .ok (.lconst 1, 1) := by decide +kernel
theorem dL_law_258 : decode code 258 = .ok (.goto 4, 3) := by decide +kernel
theorem dL_law_261 : decode code 261 = .ok (.lconst 0, 1) := by decide +kernel
theorem dL_law_262 : decode code 262 = .ok (.lcmp, 1) := by decide +kernel
theorem dL_law_263 : decode code 263 = .ok (.ifCond .eq 5, 3) := by decide +kernel
theorem dL_law_266 : decode code 266 = .ok (.iconst 0, 1) := by decide +kernel
theorem dL_law_267 : decode code 267 = .ok (.ireturn, 1) := by decide +kernel
theorem dL_law_268 : decode code 268 = .ok (.goto 419, 3) := by decide +kernel
theorem dL_law_271 : decode code 271 = .ok (.aload_n 1, 1) := by decide +kernel
theorem dL_law_272 : decode code 272 = .ok (.aload_n 0, 1) := by decide +kernel
theorem dL_law_273 : decode code 273 = .ok (.iload 4, 2) := by decide +kernel
theorem dL_law_275 : decode code 275 = .ok (.iconst 1, 1) := by decide +kernel
theorem dL_law_276 : decode code 276 = .ok (.iadd, 1) := by decide +kernel
theorem dL_law_277 : decode code 277 = .ok (.iaload, 1) := by decide +kernel
theorem dL_law_278 : decode code 278 = .ok (.invokevirtual 64, 3) := by decide +kernel
theorem dL_law_281 : decode code 281 = .ok (.aload_n 2, 1) := by decide +kernel
theorem dL_law_282 : decode code 282 = .ok (.aload_n 0, 1) := by decide +kernel
theorem dL_law_283 : decode code 283 = .ok (.iload 4, 2) := by decide +kernel
theorem dL_law_285 : decode code 285 = .ok (.iconst 1, 1) := by decide +kernel
theorem dL_law_286 : decode code 286 = .ok (.iadd, 1) := by decide +kernel
theorem dL_law_287 : decode code 287 = .ok (.iaload, 1) := by decide +kernel
theorem dL_law_288 : decode code 288 = .ok (.invokevirtual 68, 3) := by decide +kernel
theorem dL_law_291 : decode code 291 = .ok (.if_icmp .eq 396, 3) := by decide +kernel
theorem dL_law_294 : decode code 294 = .ok (.iconst 0, 1) := by decide +kernel
theorem dL_law_295 : decode code 295 = .ok (.ireturn, 1) := by decide +kernel
theorem dL_law_296 : decode code 296 = .ok (.aload_n 1, 1) := by decide +kernel
theorem dL_law_297 : decode code 297 = .ok (.invokevirtual 69, 3) := by decide +kernel
theorem dL_law_300 : decode code 300 = .ok (.aload_n 2, 1) := by decide +kernel
theorem dL_law_301 : decode code 301 = .ok (.invokevirtual 72, 3) := by decide +kernel
theorem dL_law_304 : decode code 304 = .ok (.if_icmp .eq 383, 3) := by decide +kernel
theorem dL_law_307 : decode code 307 = .ok (.iconst 0, 1) := by decide +kernel
theorem dL_law_308 : decode code 308 = .ok (.ireturn, 1) := by decide +kernel
theorem dL_law_309 : decode code 309 = .ok (.aload_n 1, 1) := by decide +kernel
theorem dL_law_310 : decode code 310 = .ok (.aload_n 0, 1) := by decide +kernel
theorem dL_law_311 : decode code 311 = .ok (.iload 4, 2) := by decide +kernel
theorem dL_law_313 : decode code 313 = .ok (.iconst 1, 1) := by decide +kernel
theorem dL_law_314 : decode code 314 = .ok (.iadd, 1) := by decide +kernel
theorem dL_law_315 : decode code 315 = .ok (.iaload, 1) := by decide +kernel
theorem dL_law_316 : decode code 316 = .ok (.aload_n 0, 1) := by decide +kernel
theorem dL_law_317 : decode code 317 = .ok (.iload 4, 2) := by decide +kernel
theorem dL_law_319 : decode code 319 = .ok (.iconst 2, 1) := by decide +kernel
theorem dL_law_320 : decode code 320 = .ok (.iadd, 1) := by decide +kernel
theorem dL_law_321 : decode code 321 = .ok (.iaload, 1) := by decide +kernel
theorem dL_law_322 : decode code 322 = .ok (.aload_n 3, 1) := by decide +kernel
theorem dL_law_323 : decode code 323 = .ok (.invokestatic 73, 3) := by decide +kernel
theorem dL_law_326 : decode code 326 = .ok (.istore 5, 2) := by decide +kernel
theorem dL_law_328 : decode code 328 = .ok (.aload_n 2, 1) := by decide +kernel
theorem dL_law_329 : decode code 329 = .ok (.aload_n 0, 1) := by decide +kernel
theorem dL_law_330 : decode code 330 = .ok (.iload 4, 2) := by decide +kernel
theorem dL_law_332 : decode code 332 = .ok (.iconst 1, 1) := by decide +kernel
theorem dL_law_333 : decode code 333 = .ok (.iadd, 1) := by decide +kernel
theorem dL_law_334 : decode code 334 = .ok (.iaload, 1) := by decide +kernel
theorem dL_law_335 : decode code 335 = .ok (.aload_n 0, 1) := by decide +kernel
theorem dL_law_336 : decode code 336 = .ok (.iload 4, 2) := by decide +kernel
theorem dL_law_338 : decode code 338 = .ok (.iconst 2, 1) := by decide +kernel
theorem dL_law_339 : decode code 339 = .ok (.iadd, 1) := by decide +kernel
theorem dL_law_340 : decode code 340 = .ok (.iaload, 1) := by decide +kernel
theorem dL_law_341 : decode code 341 = .ok (.invokevirtual 75, 3) := by decide +kernel
theorem dL_law_344 : decode code 344 = .ok (.istore 6, 2) := by decide +kernel
theorem dL_law_346 : decode code 346 = .ok (.aload_n 2, 1) := by decide +kernel
theorem dL_law_347 : decode code 347 = .ok (.invokevirtual 56, 3) := by decide +kernel
theorem dL_law_350 : decode code 350 = .ok (.iload 5, 2) := by decide +kernel
theorem dL_law_352 : decode code 352 = .ok (.if_icmp .eq 5, 3) := by decide +kernel
theorem dL_law_355 : decode code 355 = .ok (.iconst 0, 1) := by decide +kernel
theorem dL_law_356 : decode code 356 = .ok (.ireturn, 1) := by decide +kernel
theorem dL_law_357 : decode code 357 = .ok (.iload 5, 2) := by decide +kernel
theorem dL_law_359 : decode code 359 = .ok (.ifCond .ne 15, 3) := by decide +kernel
theorem dL_law_362 : decode code 362 = .ok (.aload_n 3, 1) := by decide +kernel
theorem dL_law_363 : decode code 363 = .ok (.iconst 0, 1) := by decide +kernel
theorem dL_law_364 : decode code 364 = .ok (.laload, 1) := by decide +kernel
theorem dL_law_365 : decode code 365 = .ok (.iload 6, 2) := by decide +kernel
theorem dL_law_367 : decode code 367 = .ok (.i2l, 1) := by decide +kernel
theorem dL_law_368 : decode code 368 = .ok (.lcmp, 1) := by decide +kernel
theorem dL_law_369 : decode code 369 = .ok (.ifCond .eq 5, 3) := by decide +kernel
theorem dL_law_372 : decode code 372 = .ok (.iconst 0, 1) := by decide +kernel
theorem dL_law_373 : decode code 373 = .ok (.ireturn, 1) := by decide +kernel
theorem dL_law_374 : decode code 374 = .ok (.goto 313, 3) := by decide +kernel
theorem dL_law_377 : decode code 377 = .ok (.aload_n 1, 1) := by decide +kernel
theorem dL_law_378 : decode code 378 = .ok (.aload_n 0, 1) := by decide +kernel
theorem dL_law_379 : decode code 379 = .ok (.iload 4, 2) := by decide +kernel
theorem dL_law_381 : decode code 381 = .ok (.iconst 1, 1) := by decide +kernel
theorem dL_law_382 : decode code 382 = .ok (.iadd, 1) := by decide +kernel
theorem dL_law_383 : decode code 383 = .ok (.iaload, 1) := by decide +kernel
theorem dL_law_384 : decode code 384 = .ok (.aload_n 0, 1) := by decide +kernel
theorem dL_law_385 : decode code 385 = .ok (.iload 4, 2) := by decide +kernel
theorem dL_law_387 : decode code 387 = .ok (.iconst 2, 1) := by decide +kernel
theorem dL_law_388 : decode code 388 = .ok (.iadd, 1) := by decide +kernel
theorem dL_law_389 : decode code 389 = .ok (.iaload, 1) := by decide +kernel
theorem dL_law_390 : decode code 390 = .ok (.aload_n 3, 1) := by decide +kernel
theorem dL_law_391 : decode code 391 = .ok (.invokestatic 76, 3) := by decide +kernel
theorem dL_law_394 : decode code 394 = .ok (.istore 5, 2) := by decide +kernel
theorem dL_law_396 : decode code 396 = .ok (.aload_n 2, 1) := by decide +kernel
theorem dL_law_397 : decode code 397 = .ok (.aload_n 0, 1) := by decide +kernel
theorem dL_law_398 : decode code 398 = .ok (.iload 4, 2) := by decide +kernel
theorem dL_law_400 : decode code 400 = .ok (.iconst 1, 1) := by decide +kernel
theorem dL_law_401 : decode code 401 = .ok (.iadd, 1) := by decide +kernel
theorem dL_law_402 : decode code 402 = .ok (.iaload, 1) := by decide +kernel
theorem dL_law_403 : decode code 403 = .ok (.aload_n 0, 1) := by decide +kernel
theorem dL_law_404 : decode code 404 = .ok (.iload 4, 2) := by decide +kernel
theorem dL_law_406 : decode code 406 = .ok (.iconst 2, 1) := by decide +kernel
theorem dL_law_407 : decode code 407 = .ok (.iadd, 1) := by decide +kernel
theorem dL_law_408 : decode code 408 = .ok (.iaload, 1) := by decide +kernel
theorem dL_law_409 : decode code 409 = .ok (.invokevirtual 78, 3) := by decide +kernel
theorem dL_law_412 : decode code 412 = .ok (.istore 6, 2) := by decide +kernel
theorem dL_law_414 : decode code 414 = .ok (.aload_n 2, 1) := by decide +kernel
theorem dL_law_415 : decode code 415 = .ok (.invokevirtual 56, 3) := by decide +kernel
theorem dL_law_418 : decode code 418 = .ok (.iload 5, 2) := by decide +kernel
theorem dL_law_420 : decode code 420 = .ok (.if_icmp .eq 5, 3) := by decide +kernel
theorem dL_law_423 : decode code 423 = .ok (.iconst 0, 1) := by decide +kernel
theorem dL_law_424 : decode code 424 = .ok (.ireturn, 1) := by decide +kernel
theorem dL_law_425 : decode code 425 = .ok (.iload 5, 2) := by decide +kernel
theorem dL_law_427 : decode code 427 = .ok (.ifCond .ne 15, 3) := by decide +kernel
theorem dL_law_430 : decode code 430 = .ok (.aload_n 3, 1) := by decide +kernel
theorem dL_law_431 : decode code 431 = .ok (.iconst 0, 1) := by decide +kernel
theorem dL_law_432 : decode code 432 = .ok (.laload, 1) := by decide +kernel
theorem dL_law_433 : decode code 433 = .ok (.iload 6, 2) := by decide +kernel
theorem dL_law_435 : decode code 435 = .ok (.i2l, 1) := by decide +kernel
theorem dL_law_436 : decode code 436 = .ok (.lcmp, 1) := by decide +kernel
theorem dL_law_437 : decode code 437 = .ok (.ifCond .eq 5, 3) := by decide +kernel
theorem dL_law_440 : decode code 440 = .ok (.iconst 0, 1) := by decide +kernel
theorem dL_law_441 : decode code 441 = .ok (.ireturn, 1) := by decide +kernel
theorem dL_law_442 : decode code 442 = .ok (.goto 245, 3) := by decide +kernel
theorem dL_law_445 : decode code 445 = .ok (.aload_n 1, 1) := by decide +kernel
theorem dL_law_446 : decode code 446 = .ok (.aload_n 0, 1) := by decide +kernel
theorem dL_law_447 : decode code 447 = .ok (.iload 4, 2) := by decide +kernel
theorem dL_law_449 : decode code 449 = .ok (.iconst 1, 1) := by decide +kernel
theorem dL_law_450 : decode code 450 = .ok (.iadd, 1) := by decide +kernel
theorem dL_law_451 : decode code 451 = .ok (.iaload, 1) := by decide +kernel
theorem dL_law_452 : decode code 452 = .ok (.aload_n 0, 1) := by decide +kernel
theorem dL_law_453 : decode code 453 = .ok (.iload 4, 2) := by decide +kernel
theorem dL_law_455 : decode code 455 = .ok (.iconst 2, 1) := by decide +kernel
theorem dL_law_456 : decode code 456 = .ok (.iadd, 1) := by decide +kernel
theorem dL_law_457 : decode code 457 = .ok (.iaload, 1) := by decide +kernel
theorem dL_law_458 : decode code 458 = .ok (.aload_n 3, 1) := by decide +kernel
theorem dL_law_459 : decode code 459 = .ok (.invokestatic 79, 3) := by decide +kernel
theorem dL_law_462 : decode code 462 = .ok (.istore 5, 2) := by decide +kernel
theorem dL_law_464 : decode code 464 = .ok (.aload_n 2, 1) := by decide +kernel
theorem dL_law_465 : decode code 465 = .ok (.aload_n 0, 1) := by decide +kernel
theorem dL_law_466 : decode code 466 = .ok (.iload 4, 2) := by decide +kernel
theorem dL_law_468 : decode code 468 = .ok (.iconst 1, 1) := by decide +kernel
theorem dL_law_469 : decode code 469 = .ok (.iadd, 1) := by decide +kernel
theorem dL_law_470 : decode code 470 = .ok (.iaload, 1) := by decide +kernel
theorem dL_law_471 : decode code 471 = .ok (.aload_n 0, 1) := by decide +kernel
theorem dL_law_472 : decode code 472 = .ok (.iload 4, 2) := by decide +kernel
theorem dL_law_474 : decode code 474 = .ok (.iconst 2, 1) := by decide +kernel
theorem dL_law_475 : decode code 475 = .ok (.iadd, 1) := by decide +kernel
theorem dL_law_476 : decode code 476 = .ok (.iaload, 1) := by decide +kernel
theorem dL_law_477 : decode code 477 = .ok (.invokevirtual 81, 3) := by decide +kernel
theorem dL_law_480 : decode code 480 = .ok (.istore 6, 2) := by decide +kernel
theorem dL_law_482 : decode code 482 = .ok (.aload_n 2, 1) := by decide +kernel
theorem dL_law_483 : decode code 483 = .ok (.invokevirtual 56, 3) := by decide +kernel
theorem dL_law_486 : decode code 486 = .ok (.iload 5, 2) := by decide +kernel
theorem dL_law_488 : decode code 488 = .ok (.if_icmp .eq 5, 3) := by decide +kernel
theorem dL_law_491 : decode code 491 = .ok (.iconst 0, 1) := by decide +kernel
theorem dL_law_492 : decode code 492 = .ok (.ireturn, 1) := by decide +kernel
theorem dL_law_493 : decode code 493 = .ok (.iload 5, 2) := by decide +kernel
theorem dL_law_495 : decode code 495 = .ok (.ifCond .ne 15, 3) := by decide +kernel
theorem dL_law_498 : decode code 498 = .ok (.aload_n 3, 1) := by decide +kernel
theorem dL_law_499 : decode code 499 = .ok (.iconst 0, 1) := by decide +kernel
theorem dL_law_500 : decode code 500 = .ok (.laload, 1) := by decide +kernel
theorem dL_law_501 : decode code 501 = .ok (.iload 6, 2) := by decide +kernel
theorem dL_law_503 : decode code 503 = .ok (.i2l, 1) := by decide +kernel
theorem dL_law_504 : decode code 504 = .ok (.lcmp, 1) := by decide +kernel
theorem dL_law_505 : decode code 505 = .ok (.ifCond .eq 5, 3) := by decide +kernel
theorem dL_law_508 : decode code 508 = .ok (.iconst 0, 1) := by decide +kernel
theorem dL_law_509 : decode code 509 = .ok (.ireturn, 1) := by decide +kernel
theorem dL_law_510 : decode code 510 = .ok (.goto 177, 3) := by decide +kernel
theorem dL_law_513 : decode code 513 = .ok (.aload_n 1, 1) := by decide +kernel
theorem dL_law_514 : decode code 514 = .ok (.invokevirtual 82, 3) := by decide +kernel
theorem dL_law_517 : decode code 517 = .ok (.aload_n 2, 1) := by decide +kernel
theorem dL_law_518 : decode code 518 = .ok (.invokevirtual 85, 3) := by decide +kernel
theorem dL_law_521 : decode code 521 = .ok (.if_icmp .eq 166, 3) := by decide +kernel
theorem dL_law_524 : decode code 524 = .ok (.iconst 0, 1) := by decide +kernel
theorem dL_law_525 : decode code 525 = .ok (.ireturn, 1) := by decide +kernel
theorem dL_law_526 : decode code 526 = .ok (.aload_n 1, 1) := by decide +kernel
theorem dL_law_527 : decode code 527 = .ok (.aload_n 0, 1) := by decide +kernel
theorem dL_law_528 : decode code 528 = .ok (.iload 4, 2) := by decide +kernel
theorem dL_law_530 : decode code 530 = .ok (.iconst 1, 1) := by decide +kernel
theorem dL_law_531 : decode code 531 = .ok (.iadd, 1) := by decide +kernel
theorem dL_law_532 : decode code 532 = .ok (.iaload, 1) := by decide +kernel
theorem dL_law_533 : decode code 533 = .ok (.aload_n 0, 1) := by decide +kernel
theorem dL_law_534 : decode code 534 = .ok (.iload 4, 2) := by decide +kernel
theorem dL_law_536 : decode code 536 = .ok (.iconst 2, 1) := by decide +kernel
theorem dL_law_537 : decode code 537 = .ok (.iadd, 1) := by decide +kernel
theorem dL_law_538 : decode code 538 = .ok (.iaload, 1) := by decide +kernel
theorem dL_law_539 : decode code 539 = .ok (.aload_n 3, 1) := by decide +kernel
theorem dL_law_540 : decode code 540 = .ok (.invokestatic 86, 3) := by decide +kernel
theorem dL_law_543 : decode code 543 = .ok (.istore 5, 2) := by decide +kernel
theorem dL_law_545 : decode code 545 = .ok (.aload_n 2, 1) := by decide +kernel
theorem dL_law_546 : decode code 546 = .ok (.aload_n 0, 1) := by decide +kernel
theorem dL_law_547 : decode code 547 = .ok (.iload 4, 2) := by decide +kernel
theorem dL_law_549 : decode code 549 = .ok (.iconst 1, 1) := by decide +kernel
theorem dL_law_550 : decode code 550 = .ok (.iadd, 1) := by decide +kernel
theorem dL_law_551 : decode code 551 = .ok (.iaload, 1) := by decide +kernel
theorem dL_law_552 : decode code 552 = .ok (.aload_n 0, 1) := by decide +kernel
theorem dL_law_553 : decode code 553 = .ok (.iload 4, 2) := by decide +kernel
theorem dL_law_555 : decode code 555 = .ok (.iconst 2, 1) := by decide +kernel
theorem dL_law_556 : decode code 556 = .ok (.iadd, 1) := by decide +kernel
theorem dL_law_557 : decode code 557 = .ok (.iaload, 1) := by decide +kernel
theorem dL_law_558 : decode code 558 = .ok (.invokevirtual 88, 3) := by decide +kernel
theorem dL_law_561 : decode code 561 = .ok (.istore 6, 2) := by decide +kernel
theorem dL_law_563 : decode code 563 = .ok (.aload_n 2, 1) := by decide +kernel
theorem dL_law_564 : decode code 564 = .ok (.invokevirtual 56, 3) := by decide +kernel
theorem dL_law_567 : decode code 567 = .ok (.iload 5, 2) := by decide +kernel
theorem dL_law_569 : decode code 569 = .ok (.if_icmp .eq 5, 3) := by decide +kernel
theorem dL_law_572 : decode code 572 = .ok (.iconst 0, 1) := by decide +kernel
theorem dL_law_573 : decode code 573 = .ok (.ireturn, 1) := by decide +kernel
theorem dL_law_574 : decode code 574 = .ok (.iload 5, 2) := by decide +kernel
theorem dL_law_576 : decode code 576 = .ok (.ifCond .ne 15, 3) := by decide +kernel
theorem dL_law_579 : decode code 579 = .ok (.aload_n 3, 1) := by decide +kernel
theorem dL_law_580 : decode code 580 = .ok (.iconst 0, 1) := by decide +kernel
theorem dL_law_581 : decode code 581 = .ok (.laload, 1) := by decide +kernel
theorem dL_law_582 : decode code 582 = .ok (.iload 6, 2) := by decide +kernel
theorem dL_law_584 : decode code 584 = .ok (.i2l, 1) := by decide +kernel
theorem dL_law_585 : decode code 585 = .ok (.lcmp, 1) := by decide +kernel
theorem dL_law_586 : decode code 586 = .ok (.ifCond .eq 5, 3) := by decide +kernel
theorem dL_law_589 : decode code 589 = .ok (.iconst 0, 1) := by decide +kernel
theorem dL_law_590 : decode code 590 = .ok (.ireturn, 1) := by decide +kernel
theorem dL_law_591 : decode code 591 = .ok (.goto 96, 3) := by decide +kernel
theorem dL_law_594 : decode code 594 = .ok (.aload_n 1, 1) := by decide +kernel
theorem dL_law_595 : decode code 595 = .ok (.aload_n 0, 1) := by decide +kernel
theorem dL_law_596 : decode code 596 = .ok (.iload 4, 2) := by decide +kernel
theorem dL_law_598 : decode code 598 = .ok (.iconst 1, 1) := by decide +kernel
theorem dL_law_599 : decode code 599 = .ok (.iadd, 1) := by decide +kernel
theorem dL_law_600 : decode code 600 = .ok (.iaload, 1) := by decide +kernel
theorem dL_law_601 : decode code 601 = .ok (.aload_n 0, 1) := by decide +kernel
theorem dL_law_602 : decode code 602 = .ok (.iload 4, 2) := by decide +kernel
theorem dL_law_604 : decode code 604 = .ok (.iconst 2, 1) := by decide +kernel
theorem dL_law_605 : decode code 605 = .ok (.iadd, 1) := by decide +kernel
theorem dL_law_606 : decode code 606 = .ok (.iaload, 1) := by decide +kernel
theorem dL_law_607 : decode code 607 = .ok (.aload_n 3, 1) := by decide +kernel
theorem dL_law_608 : decode code 608 = .ok (.invokestatic 89, 3) := by decide +kernel
theorem dL_law_611 : decode code 611 = .ok (.istore 5, 2) := by decide +kernel
theorem dL_law_613 : decode code 613 = .ok (.aload_n 2, 1) := by decide +kernel
theorem dL_law_614 : decode code 614 = .ok (.aload_n 0, 1) := by decide +kernel
theorem dL_law_615 : decode code 615 = .ok (.iload 4, 2) := by decide +kernel
theorem dL_law_617 : decode code 617 = .ok (.iconst 1, 1) := by decide +kernel
theorem dL_law_618 : decode code 618 = .ok (.iadd, 1) := by decide +kernel
theorem dL_law_619 : decode code 619 = .ok (.iaload, 1) := by decide +kernel
theorem dL_law_620 : decode code 620 = .ok (.aload_n 0, 1) := by decide +kernel
theorem dL_law_621 : decode code 621 = .ok (.iload 4, 2) := by decide +kernel
theorem dL_law_623 : decode code 623 = .ok (.iconst 2, 1) := by decide +kernel
theorem dL_law_624 : decode code 624 = .ok (.iadd, 1) := by decide +kernel
theorem dL_law_625 : decode code 625 = .ok (.iaload, 1) := by decide +kernel
theorem dL_law_626 : decode code 626 = .ok (.invokevirtual 91, 3) := by decide +kernel
theorem dL_law_629 : decode code 629 = .ok (.istore 6, 2) := by decide +kernel
theorem dL_law_631 : decode code 631 = .ok (.aload_n 2, 1) := by decide +kernel
theorem dL_law_632 : decode code 632 = .ok (.invokevirtual 56, 3) := by decide +kernel
theorem dL_law_635 : decode code 635 = .ok (.iload 5, 2) := by decide +kernel
theorem dL_law_637 : decode code 637 = .ok (.if_icmp .eq 5, 3) := by decide +kernel
theorem dL_law_640 : decode code 640 = .ok (.iconst 0, 1) := by decide +kernel
theorem dL_law_641 : decode code 641 = .ok (.ireturn, 1) := by decide +kernel
theorem dL_law_642 : decode code 642 = .ok (.iload 5, 2) := by decide +kernel
theorem dL_law_644 : decode code 644 = .ok (.ifCond .ne 15, 3) := by decide +kernel
theorem dL_law_647 : decode code 647 = .ok (.aload_n 3, 1) := by decide +kernel
theorem dL_law_648 : decode code 648 = .ok (.iconst 0, 1) := by decide +kernel
theorem dL_law_649 : decode code 649 = .ok (.laload, 1) := by decide +kernel
theorem dL_law_650 : decode code 650 = .ok (.iload 6, 2) := by decide +kernel
theorem dL_law_652 : decode code 652 = .ok (.i2l, 1) := by decide +kernel
theorem dL_law_653 : decode code 653 = .ok (.lcmp, 1) := by decide +kernel
theorem dL_law_654 : decode code 654 = .ok (.ifCond .eq 5, 3) := by decide +kernel
theorem dL_law_657 : decode code 657 = .ok (.iconst 0, 1) := by decide +kernel
theorem dL_law_658 : decode code 658 = .ok (.ireturn, 1) := by decide +kernel
theorem dL_law_659 : decode code 659 = .ok (.goto 28, 3) := by decide +kernel
theorem dL_law_662 : decode code 662 = .ok (.aload_n 1, 1) := by decide +kernel
theorem dL_law_663 : decode code 663 = .ok (.aload_n 0, 1) := by decide +kernel
theorem dL_law_664 : decode code 664 = .ok (.iload 4, 2) := by decide +kernel
theorem dL_law_666 : decode code 666 = .ok (.iconst 1, 1) := by decide +kernel
theorem dL_law_667 : decode code 667 = .ok (.iadd, 1) := by decide +kernel
theorem dL_law_668 : decode code 668 = .ok (.iaload, 1) := by decide +kernel
theorem dL_law_669 : decode code 669 = .ok (.invokevirtual 92, 3) := by decide +kernel
theorem dL_law_672 : decode code 672 = .ok (.aload_n 2, 1) := by decide +kernel
theorem dL_law_673 : decode code 673 = .ok (.aload_n 0, 1) := by decide +kernel
theorem dL_law_674 : decode code 674 = .ok (.iload 4, 2) := by decide +kernel
theorem dL_law_676 : decode code 676 = .ok (.iconst 1, 1) := by decide +kernel
theorem dL_law_677 : decode code 677 = .ok (.iadd, 1) := by decide +kernel
theorem dL_law_678 : decode code 678 = .ok (.iaload, 1) := by decide +kernel
theorem dL_law_679 : decode code 679 = .ok (.invokevirtual 96, 3) := by decide +kernel
theorem dL_law_682 : decode code 682 = .ok (.if_icmp .eq 5, 3) := by decide +kernel
theorem dL_law_685 : decode code 685 = .ok (.iconst 0, 1) := by decide +kernel
theorem dL_law_686 : decode code 686 = .ok (.ireturn, 1) := by decide +kernel
theorem dL_law_687 : decode code 687 = .ok (.iinc 4 4, 3) := by decide +kernel
theorem dL_law_690 : decode code 690 = .ok (.goto (-647), 3) := by decide +kernel
theorem dL_law_693 : decode code 693 = .ok (.iconst 1, 1) := by decide +kernel
theorem dL_law_694 : decode code 694 = .ok (.ireturn, 1) := by decide +kernel
