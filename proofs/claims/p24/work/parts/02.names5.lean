theorem dX3_digest_154 : decode cX3_digest 154 = .ok (.invokestatic 184, 3) := by decide +kernel
theorem dX3_digest_157 : decode cX3_digest 157 = .ok (.lstore_n 1, 1) := by decide +kernel
theorem dX3_digest_158 : decode cX3_digest 158 = .ok (.iinc 4 1, 3) := by decide +kernel
theorem dX3_digest_161 : decode cX3_digest 161 = .ok (.goto (-28), 3) := by decide +kernel
theorem dX3_digest_164 : decode cX3_digest 164 = .ok (.iinc 3 1, 3) := by decide +kernel
theorem dX3_digest_167 : decode cX3_digest 167 = .ok (.goto (-51), 3) := by decide +kernel
theorem dX3_digest_170 : decode cX3_digest 170 = .ok (.iconst 0, 1) := by decide +kernel
theorem dX3_digest_171 : decode cX3_digest 171 = .ok (.istore_n 3, 1) := by decide +kernel
theorem dX3_digest_172 : decode cX3_digest 172 = .ok (.iload_n 3, 1) := by decide +kernel
theorem dX3_digest_173 : decode cX3_digest 173 = .ok (.iconst 3, 1) := by decide +kernel
theorem dX3_digest_174 : decode cX3_digest 174 = .ok (.if_icmp .ge 86, 3) := by decide +kernel
theorem dX3_digest_177 : decode cX3_digest 177 = .ok (.iconst 0, 1) := by decide +kernel
theorem dX3_digest_178 : decode cX3_digest 178 = .ok (.istore 4, 2) := by decide +kernel
theorem dX3_digest_180 : decode cX3_digest 180 = .ok (.iload 4, 2) := by decide +kernel
theorem dX3_digest_182 : decode cX3_digest 182 = .ok (.iconst 3, 1) := by decide +kernel
theorem dX3_digest_183 : decode cX3_digest 183 = .ok (.if_icmp .ge 24, 3) := by decide +kernel
theorem dX3_digest_186 : decode cX3_digest 186 = .ok (.lload_n 1, 1) := by decide +kernel
theorem dX3_digest_187 : decode cX3_digest 187 = .ok (.aload_n 0, 1) := by decide +kernel
theorem dX3_digest_188 : decode cX3_digest 188 = .ok (.getfield 10, 3) := by decide +kernel
theorem dX3_digest_191 : decode cX3_digest 191 = .ok (.iload_n 3, 1) := by decide +kernel
theorem dX3_digest_192 : decode cX3_digest 192 = .ok (.iload 4, 2) := by decide +kernel
theorem dX3_digest_194 : decode cX3_digest 194 = .ok (.invokevirtual 142, 3) := by decide +kernel
theorem dX3_digest_197 : decode cX3_digest 197 = .ok (.invokestatic 184, 3) := by decide +kernel
theorem dX3_digest_200 : decode cX3_digest 200 = .ok (.lstore_n 1, 1) := by decide +kernel
theorem dX3_digest_201 : decode cX3_digest 201 = .ok (.iinc 4 1, 3) := by decide +kernel
theorem dX3_digest_204 : decode cX3_digest 204 = .ok (.goto (-24), 3) := by decide +kernel
theorem dX3_digest_207 : decode cX3_digest 207 = .ok (.aload_n 0, 1) := by decide +kernel
theorem dX3_digest_208 : decode cX3_digest 208 = .ok (.getfield 10, 3) := by decide +kernel
theorem dX3_digest_211 : decode cX3_digest 211 = .ok (.getfield 97, 3) := by decide +kernel
theorem dX3_digest_214 : decode cX3_digest 214 = .ok (.iload_n 3, 1) := by decide +kernel
theorem dX3_digest_215 : decode cX3_digest 215 = .ok (.invokevirtual 189, 3) := by decide +kernel
theorem dX3_digest_218 : decode cX3_digest 218 = .ok (.istore 4, 2) := by decide +kernel
theorem dX3_digest_220 : decode cX3_digest 220 = .ok (.iconst 0, 1) := by decide +kernel
theorem dX3_digest_221 : decode cX3_digest 221 = .ok (.istore 5, 2) := by decide +kernel
theorem dX3_digest_223 : decode cX3_digest 223 = .ok (.iload 5, 2) := by decide +kernel
theorem dX3_digest_225 : decode cX3_digest 225 = .ok (.iload 4, 2) := by decide +kernel
theorem dX3_digest_227 : decode cX3_digest 227 = .ok (.if_icmp .ge 27, 3) := by decide +kernel
theorem dX3_digest_230 : decode cX3_digest 230 = .ok (.lload_n 1, 1) := by decide +kernel
theorem dX3_digest_231 : decode cX3_digest 231 = .ok (.aload_n 0, 1) := by decide +kernel
theorem dX3_digest_232 : decode cX3_digest 232 = .ok (.getfield 10, 3) := by decide +kernel
theorem dX3_digest_235 : decode cX3_digest 235 = .ok (.getfield 97, 3) := by decide +kernel
theorem dX3_digest_238 : decode cX3_digest 238 = .ok (.iload_n 3, 1) := by decide +kernel
theorem dX3_digest_239 : decode cX3_digest 239 = .ok (.iload 5, 2) := by decide +kernel
theorem dX3_digest_241 : decode cX3_digest 241 = .ok (.invokevirtual 145, 3) := by decide +kernel
theorem dX3_digest_244 : decode cX3_digest 244 = .ok (.invokestatic 184, 3) := by decide +kernel
theorem dX3_digest_247 : decode cX3_digest 247 = .ok (.lstore_n 1, 1) := by decide +kernel
theorem dX3_digest_248 : decode cX3_digest 248 = .ok (.iinc 5 1, 3) := by decide +kernel
theorem dX3_digest_251 : decode cX3_digest 251 = .ok (.goto (-28), 3) := by decide +kernel
theorem dX3_digest_254 : decode cX3_digest 254 = .ok (.iinc 3 1, 3) := by decide +kernel
theorem dX3_digest_257 : decode cX3_digest 257 = .ok (.goto (-85), 3) := by decide +kernel
theorem dX3_digest_260 : decode cX3_digest 260 = .ok (.lload_n 1, 1) := by decide +kernel
theorem dX3_digest_261 : decode cX3_digest 261 = .ok (.lreturn, 1) := by decide +kernel
theorem dX3_mixed_0 : decode cX3_mixed 0 = .ok (.lload_n 0, 1) := by decide +kernel
theorem dX3_mixed_1 : decode cX3_mixed 1 = .ok (.ldc2_w 192, 3) := by decide +kernel
theorem dX3_mixed_4 : decode cX3_mixed 4 = .ok (.lmul, 1) := by decide +kernel
theorem dX3_mixed_5 : decode cX3_mixed 5 = .ok (.iload_n 2, 1) := by decide +kernel
theorem dX3_mixed_6 : decode cX3_mixed 6 = .ok (.i2l, 1) := by decide +kernel
theorem dX3_mixed_7 : decode cX3_mixed 7 = .ok (.ladd, 1) := by decide +kernel
theorem dX3_mixed_8 : decode cX3_mixed 8 = .ok (.lreturn, 1) := by decide +kernel
theorem dX3_isWithin_0 : decode cX3_isWithin 0 = .ok (.iload_n 0, 1) := by decide +kernel
theorem dX3_isWithin_1 : decode cX3_isWithin 1 = .ok (.iload_n 1, 1) := by decide +kernel
theorem dX3_isWithin_2 : decode cX3_isWithin 2 = .ok (.if_icmp .lt 12, 3) := by decide +kernel
theorem dX3_isWithin_5 : decode cX3_isWithin 5 = .ok (.iload_n 0, 1) := by decide +kernel
theorem dX3_isWithin_6 : decode cX3_isWithin 6 = .ok (.iload_n 2, 1) := by decide +kernel
theorem dX3_isWithin_7 : decode cX3_isWithin 7 = .ok (.if_icmp .gt 7, 3) := by decide +kernel
theorem dX3_isWithin_10 : decode cX3_isWithin 10 = .ok (.iconst 1, 1) := by decide +kernel
theorem dX3_isWithin_11 : decode cX3_isWithin 11 = .ok (.goto 4, 3) := by decide +kernel
theorem dX3_isWithin_14 : decode cX3_isWithin 14 = .ok (.iconst 0, 1) := by decide +kernel
theorem dX3_isWithin_15 : decode cX3_isWithin 15 = .ok (.ireturn, 1) := by decide +kernel
theorem dX3_held_0 : decode cX3_held 0 = .ok (.iload_n 1, 1) := by decide +kernel
theorem dX3_held_1 : decode cX3_held 1 = .ok (.iload_n 2, 1) := by decide +kernel
theorem dX3_held_2 : decode cX3_held 2 = .ok (.iload_n 0, 1) := by decide +kernel
theorem dX3_held_3 : decode cX3_held 3 = .ok (.invokestatic 194, 3) := by decide +kernel
theorem dX3_held_6 : decode cX3_held 6 = .ok (.invokestatic 199, 3) := by decide +kernel
theorem dX3_held_9 : decode cX3_held 9 = .ok (.ireturn, 1) := by decide +kernel
theorem dX3_copyRow_0 : decode cX3_copyRow 0 = .ok (.aload_n 0, 1) := by decide +kernel
theorem dX3_copyRow_1 : decode cX3_copyRow 1 = .ok (.iconst 0, 1) := by decide +kernel
theorem dX3_copyRow_2 : decode cX3_copyRow 2 = .ok (.aload_n 1, 1) := by decide +kernel
theorem dX3_copyRow_3 : decode cX3_copyRow 3 = .ok (.iconst 0, 1) := by decide +kernel
theorem dX3_copyRow_4 : decode cX3_copyRow 4 = .ok (.aload_n 0, 1) := by decide +kernel
theorem dX3_copyRow_5 : decode cX3_copyRow 5 = .ok (.arraylength, 1) := by decide +kernel
theorem dX3_copyRow_6 : decode cX3_copyRow 6 = .ok (.aload_n 1, 1) := by decide +kernel
theorem dX3_copyRow_7 : decode cX3_copyRow 7 = .ok (.arraylength, 1) := by decide +kernel
theorem dX3_copyRow_8 : decode cX3_copyRow 8 = .ok (.invokestatic 194, 3) := by decide +kernel
theorem dX3_copyRow_11 : decode cX3_copyRow 11 = .ok (.invokestatic 202, 3) := by decide +kernel
theorem dX3_copyRow_14 : decode cX3_copyRow 14 = .ok (.return_, 1) := by decide +kernel
theorem dX3_snowOf_0 : decode cX3_snowOf 0 = .ok (.iload_n 0, 1) := by decide +kernel
theorem dX3_snowOf_1 : decode cX3_snowOf 1 = .ok (.tableswitch 38 0 3 #[31, 38, 33, 36], 31) := by decide +kernel
theorem dX3_snowOf_32 : decode cX3_snowOf 32 = .ok (.iconst 4, 1) := by decide +kernel
theorem dX3_snowOf_33 : decode cX3_snowOf 33 = .ok (.ireturn, 1) := by decide +kernel
theorem dX3_snowOf_34 : decode cX3_snowOf 34 = .ok (.bipush (-2), 2) := by decide +kernel
theorem dX3_snowOf_36 : decode cX3_snowOf 36 = .ok (.ireturn, 1) := by decide +kernel
theorem dX3_snowOf_37 : decode cX3_snowOf 37 = .ok (.iconst (-1), 1) := by decide +kernel
theorem dX3_snowOf_38 : decode cX3_snowOf 38 = .ok (.ireturn, 1) := by decide +kernel
theorem dX3_snowOf_39 : decode cX3_snowOf 39 = .ok (.iconst 0, 1) := by decide +kernel
theorem dX3_snowOf_40 : decode cX3_snowOf 40 = .ok (.ireturn, 1) := by decide +kernel
theorem dJ6_bitCount_0f7a4_0 : decode cJ6_bitCount_0f7a4 0 = .ok (.iload_n 0, 1) := by decide +kernel
theorem dJ6_bitCount_0f7a4_1 : decode cJ6_bitCount_0f7a4 1 = .ok (.iload_n 0, 1) := by decide +kernel
theorem dJ6_bitCount_0f7a4_2 : decode cJ6_bitCount_0f7a4 2 = .ok (.iconst 1, 1) := by decide +kernel
theorem dJ6_bitCount_0f7a4_3 : decode cJ6_bitCount_0f7a4 3 = .ok (.iushr, 1) := by decide +kernel
theorem dJ6_bitCount_0f7a4_4 : decode cJ6_bitCount_0f7a4 4 = .ok (.ldc_w 265, 3) := by decide +kernel
theorem dJ6_bitCount_0f7a4_7 : decode cJ6_bitCount_0f7a4 7 = .ok (.iand, 1) := by decide +kernel
theorem dJ6_bitCount_0f7a4_8 : decode cJ6_bitCount_0f7a4 8 = .ok (.isub, 1) := by decide +kernel
theorem dJ6_bitCount_0f7a4_9 : decode cJ6_bitCount_0f7a4 9 = .ok (.istore_n 0, 1) := by decide +kernel
theorem dJ6_bitCount_0f7a4_10 : decode cJ6_bitCount_0f7a4 10 = .ok (.iload_n 0, 1) := by decide +kernel
theorem dJ6_bitCount_0f7a4_11 : decode cJ6_bitCount_0f7a4 11 = .ok (.ldc_w 266, 3) := by decide +kernel
theorem dJ6_bitCount_0f7a4_14 : decode cJ6_bitCount_0f7a4 14 = .ok (.iand, 1) := by decide +kernel
theorem dJ6_bitCount_0f7a4_15 : decode cJ6_bitCount_0f7a4 15 = .ok (.iload_n 0, 1) := by decide +kernel
theorem dJ6_bitCount_0f7a4_16 : decode cJ6_bitCount_0f7a4 16 = .ok (.iconst 2, 1) := by decide +kernel
theorem dJ6_bitCount_0f7a4_17 : decode cJ6_bitCount_0f7a4 17 = .ok (.iushr, 1) := by decide +kernel
theorem dJ6_bitCount_0f7a4_18 : decode cJ6_bitCount_0f7a4 18 = .ok (.ldc_w 266, 3) := by decide +kernel
theorem dJ6_bitCount_0f7a4_21 : decode cJ6_bitCount_0f7a4 21 = .ok (.iand, 1) := by decide +kernel
theorem dJ6_bitCount_0f7a4_22 : decode cJ6_bitCount_0f7a4 22 = .ok (.iadd, 1) := by decide +kernel
theorem dJ6_bitCount_0f7a4_23 : decode cJ6_bitCount_0f7a4 23 = .ok (.istore_n 0, 1) := by decide +kernel
theorem dJ6_bitCount_0f7a4_24 : decode cJ6_bitCount_0f7a4 24 = .ok (.iload_n 0, 1) := by decide +kernel
theorem dJ6_bitCount_0f7a4_25 : decode cJ6_bitCount_0f7a4 25 = .ok (.iload_n 0, 1) := by decide +kernel
theorem dJ6_bitCount_0f7a4_26 : decode cJ6_bitCount_0f7a4 26 = .ok (.iconst 4, 1) := by decide +kernel
theorem dJ6_bitCount_0f7a4_27 : decode cJ6_bitCount_0f7a4 27 = .ok (.iushr, 1) := by decide +kernel
theorem dJ6_bitCount_0f7a4_28 : decode cJ6_bitCount_0f7a4 28 = .ok (.iadd, 1) := by decide +kernel
theorem dJ6_bitCount_0f7a4_29 : decode cJ6_bitCount_0f7a4 29 = .ok (.ldc_w 267, 3) := by decide +kernel
theorem dJ6_bitCount_0f7a4_32 : decode cJ6_bitCount_0f7a4 32 = .ok (.iand, 1) := by decide +kernel
theorem dJ6_bitCount_0f7a4_33 : decode cJ6_bitCount_0f7a4 33 = .ok (.istore_n 0, 1) := by decide +kernel
theorem dJ6_bitCount_0f7a4_34 : decode cJ6_bitCount_0f7a4 34 = .ok (.iload_n 0, 1) := by decide +kernel
theorem dJ6_bitCount_0f7a4_35 : decode cJ6_bitCount_0f7a4 35 = .ok (.iload_n 0, 1) := by decide +kernel
theorem dJ6_bitCount_0f7a4_36 : decode cJ6_bitCount_0f7a4 36 = .ok (.bipush 8, 2) := by decide +kernel
theorem dJ6_bitCount_0f7a4_38 : decode cJ6_bitCount_0f7a4 38 = .ok (.iushr, 1) := by decide +kernel
theorem dJ6_bitCount_0f7a4_39 : decode cJ6_bitCount_0f7a4 39 = .ok (.iadd, 1) := by decide +kernel
theorem dJ6_bitCount_0f7a4_40 : decode cJ6_bitCount_0f7a4 40 = .ok (.istore_n 0, 1) := by decide +kernel
theorem dJ6_bitCount_0f7a4_41 : decode cJ6_bitCount_0f7a4 41 = .ok (.iload_n 0, 1) := by decide +kernel
theorem dJ6_bitCount_0f7a4_42 : decode cJ6_bitCount_0f7a4 42 = .ok (.iload_n 0, 1) := by decide +kernel
theorem dJ6_bitCount_0f7a4_43 : decode cJ6_bitCount_0f7a4 43 = .ok (.bipush 16, 2) := by decide +kernel
theorem dJ6_bitCount_0f7a4_45 : decode cJ6_bitCount_0f7a4 45 = .ok (.iushr, 1) := by decide +kernel
theorem dJ6_bitCount_0f7a4_46 : decode cJ6_bitCount_0f7a4 46 = .ok (.iadd, 1) := by decide +kernel
theorem dJ6_bitCount_0f7a4_47 : decode cJ6_bitCount_0f7a4 47 = .ok (.istore_n 0, 1) := by decide +kernel
theorem dJ6_bitCount_0f7a4_48 : decode cJ6_bitCount_0f7a4 48 = .ok (.iload_n 0, 1) := by decide +kernel
theorem dJ6_bitCount_0f7a4_49 : decode cJ6_bitCount_0f7a4 49 = .ok (.bipush 63, 2) := by decide +kernel
theorem dJ6_bitCount_0f7a4_51 : decode cJ6_bitCount_0f7a4 51 = .ok (.iand, 1) := by decide +kernel
theorem dJ6_bitCount_0f7a4_52 : decode cJ6_bitCount_0f7a4 52 = .ok (.ireturn, 1) := by decide +kernel
theorem dJ9_floorMod_7cf53_0 : decode cJ9_floorMod_7cf53 0 = .ok (.iload_n 0, 1) := by decide +kernel
theorem dJ9_floorMod_7cf53_1 : decode cJ9_floorMod_7cf53 1 = .ok (.iload_n 1, 1) := by decide +kernel
theorem dJ9_floorMod_7cf53_2 : decode cJ9_floorMod_7cf53 2 = .ok (.irem, 1) := by decide +kernel
theorem dJ9_floorMod_7cf53_3 : decode cJ9_floorMod_7cf53 3 = .ok (.istore_n 2, 1) := by decide +kernel
theorem dJ9_floorMod_7cf53_4 : decode cJ9_floorMod_7cf53 4 = .ok (.iload_n 0, 1) := by decide +kernel
theorem dJ9_floorMod_7cf53_5 : decode cJ9_floorMod_7cf53 5 = .ok (.iload_n 1, 1) := by decide +kernel
theorem dJ9_floorMod_7cf53_6 : decode cJ9_floorMod_7cf53 6 = .ok (.ixor, 1) := by decide +kernel
theorem dJ9_floorMod_7cf53_7 : decode cJ9_floorMod_7cf53 7 = .ok (.ifCond .ge 11, 3) := by decide +kernel
theorem dJ9_floorMod_7cf53_10 : decode cJ9_floorMod_7cf53 10 = .ok (.iload_n 2, 1) := by decide +kernel
theorem dJ9_floorMod_7cf53_11 : decode cJ9_floorMod_7cf53 11 = .ok (.ifCond .eq 7, 3) := by decide +kernel
theorem dJ9_floorMod_7cf53_14 : decode cJ9_floorMod_7cf53 14 = .ok (.iload_n 2, 1) := by decide +kernel
theorem dJ9_floorMod_7cf53_15 : decode cJ9_floorMod_7cf53 15 = .ok (.iload_n 1, 1) := by decide +kernel
theorem dJ9_floorMod_7cf53_16 : decode cJ9_floorMod_7cf53 16 = .ok (.iadd, 1) := by decide +kernel
theorem dJ9_floorMod_7cf53_17 : decode cJ9_floorMod_7cf53 17 = .ok (.ireturn, 1) := by decide +kernel
theorem dJ9_floorMod_7cf53_18 : decode cJ9_floorMod_7cf53 18 = .ok (.iload_n 2, 1) := by decide +kernel
theorem dJ9_floorMod_7cf53_19 : decode cJ9_floorMod_7cf53 19 = .ok (.ireturn, 1) := by decide +kernel
theorem dJ9_abs_0f7a4_0 : decode cJ9_abs_0f7a4 0 = .ok (.iload_n 0, 1) := by decide +kernel
theorem dJ9_abs_0f7a4_1 : decode cJ9_abs_0f7a4 1 = .ok (.ifCond .ge 8, 3) := by decide +kernel
theorem dJ9_abs_0f7a4_4 : decode cJ9_abs_0f7a4 4 = .ok (.iload_n 0, 1) := by decide +kernel
theorem dJ9_abs_0f7a4_5 : decode cJ9_abs_0f7a4 5 = .ok (.ineg, 1) := by decide +kernel
theorem dJ9_abs_0f7a4_6 : decode cJ9_abs_0f7a4 6 = .ok (.goto 4, 3) := by decide +kernel
theorem dJ9_abs_0f7a4_9 : decode cJ9_abs_0f7a4 9 = .ok (.iload_n 0, 1) := by decide +kernel
theorem dJ9_abs_0f7a4_10 : decode cJ9_abs_0f7a4 10 = .ok (.ireturn, 1) := by decide +kernel
theorem dJ9_max_7cf53_0 : decode cJ9_max_7cf53 0 = .ok (.iload_n 0, 1) := by decide +kernel
theorem dJ9_max_7cf53_1 : decode cJ9_max_7cf53 1 = .ok (.iload_n 1, 1) := by decide +kernel
theorem dJ9_max_7cf53_2 : decode cJ9_max_7cf53 2 = .ok (.if_icmp .lt 7, 3) := by decide +kernel
theorem dJ9_max_7cf53_5 : decode cJ9_max_7cf53 5 = .ok (.iload_n 0, 1) := by decide +kernel
theorem dJ9_max_7cf53_6 : decode cJ9_max_7cf53 6 = .ok (.goto 4, 3) := by decide +kernel
theorem dJ9_max_7cf53_9 : decode cJ9_max_7cf53 9 = .ok (.iload_n 1, 1) := by decide +kernel
theorem dJ9_max_7cf53_10 : decode cJ9_max_7cf53 10 = .ok (.ireturn, 1) := by decide +kernel
theorem dJ9_min_7cf53_0 : decode cJ9_min_7cf53 0 = .ok (.iload_n 0, 1) := by decide +kernel
theorem dJ9_min_7cf53_1 : decode cJ9_min_7cf53 1 = .ok (.iload_n 1, 1) := by decide +kernel
theorem dJ9_min_7cf53_2 : decode cJ9_min_7cf53 2 = .ok (.if_icmp .gt 7, 3) := by decide +kernel
theorem dJ9_min_7cf53_5 : decode cJ9_min_7cf53 5 = .ok (.iload_n 0, 1) := by decide +kernel
theorem dJ9_min_7cf53_6 : decode cJ9_min_7cf53 6 = .ok (.goto 4, 3) := by decide +kernel
theorem dJ9_min_7cf53_9 : decode cJ9_min_7cf53 9 = .ok (.iload_n 1, 1) := by decide +kernel
theorem dJ9_min_7cf53_10 : decode cJ9_min_7cf53 10 = .ok (.ireturn, 1) := by decide +kernel
theorem dL_below_0 : decode cL_below 0 = .ok (.iload_n 0, 1) := by decide +kernel
theorem dL_below_1 : decode cL_below 1 = .ok (.ldc 7, 2) := by decide +kernel
theorem dL_below_3 : decode cL_below 3 = .ok (.iand, 1) := by decide +kernel
theorem dL_below_4 : decode cL_below 4 = .ok (.iload_n 1, 1) := by decide +kernel
theorem dL_below_5 : decode cL_below 5 = .ok (.irem, 1) := by decide +kernel
theorem dL_below_6 : decode cL_below 6 = .ok (.ireturn, 1) := by decide +kernel
theorem dL_cell_0 : decode cL_cell 0 = .ok (.iload_n 1, 1) := by decide +kernel
theorem dL_cell_1 : decode cL_cell 1 = .ok (.aload_n 0, 1) := by decide +kernel
theorem dL_cell_2 : decode cL_cell 2 = .ok (.arraylength, 1) := by decide +kernel
theorem dL_cell_3 : decode cL_cell 3 = .ok (.if_icmp .ge 9, 3) := by decide +kernel
theorem dL_cell_6 : decode cL_cell 6 = .ok (.aload_n 0, 1) := by decide +kernel
theorem dL_cell_7 : decode cL_cell 7 = .ok (.iload_n 1, 1) := by decide +kernel
theorem dL_cell_8 : decode cL_cell 8 = .ok (.iaload, 1) := by decide +kernel
theorem dL_cell_9 : decode cL_cell 9 = .ok (.goto 9, 3) := by decide +kernel
theorem dL_cell_12 : decode cL_cell 12 = .ok (.ldc 8, 2) := by decide +kernel
theorem dL_cell_14 : decode cL_cell 14 = .ok (.iload_n 1, 1) := by decide +kernel
theorem dL_cell_15 : decode cL_cell 15 = .ok (.iconst 3, 1) := by decide +kernel
theorem dL_cell_16 : decode cL_cell 16 = .ok (.iadd, 1) := by decide +kernel
theorem dL_cell_17 : decode cL_cell 17 = .ok (.imul, 1) := by decide +kernel
theorem dL_cell_18 : decode cL_cell 18 = .ok (.ireturn, 1) := by decide +kernel
set_option maxRecDepth 20000 in
theorem ggL_flakeOf_L_cell : GoodIn wsL_flakeOf wsL_cell := goodIn_r _ [4, 5] (by decide +kernel) (by decide +kernel)
set_option maxRecDepth 20000 in
theorem gL_flakeOf_L_cell : GoodIn wsL_flakeOf (va_wsS RL 9 yL_cell wsL_cell) := goodIn_app (goodIn_of _ (by decide +kernel)) ggL_flakeOf_L_cell
set_option maxRecDepth 20000 in
theorem ggL_flakeOf_L_below : GoodIn wsL_flakeOf wsL_below := goodIn_r _ [8, 9] (by decide +kernel) (by decide +kernel)
set_option maxRecDepth 20000 in
theorem gL_flakeOf_L_below : GoodIn wsL_flakeOf (va_wsS RL 15 yL_below wsL_below) := goodIn_app (goodIn_of _ (by decide +kernel)) ggL_flakeOf_L_below
theorem dL_flakeOf_0 : decode cL_flakeOf 0 = .ok (.aload_n 0, 1) := by decide +kernel
theorem dL_flakeOf_1 : decode cL_flakeOf 1 = .ok (.iload_n 1, 1) := by decide +kernel
theorem dL_flakeOf_2 : decode cL_flakeOf 2 = .ok (.invokestatic 9, 3) := by decide +kernel
theorem dL_flakeOf_5 : decode cL_flakeOf 5 = .ok (.iconst 3, 1) := by decide +kernel
theorem dL_flakeOf_6 : decode cL_flakeOf 6 = .ok (.ishr, 1) := by decide +kernel
theorem dL_flakeOf_7 : decode cL_flakeOf 7 = .ok (.iconst 4, 1) := by decide +kernel
theorem dL_flakeOf_8 : decode cL_flakeOf 8 = .ok (.invokestatic 15, 3) := by decide +kernel
theorem dL_flakeOf_11 : decode cL_flakeOf 11 = .ok (.ireturn, 1) := by decide +kernel
set_option maxRecDepth 20000 in
theorem ggL_pommelsOf_L_cell : GoodIn wsL_pommelsOf wsL_cell := goodIn_r _ [4, 5] (by decide +kernel) (by decide +kernel)
set_option maxRecDepth 20000 in
theorem gL_pommelsOf_L_cell : GoodIn wsL_pommelsOf (va_wsS RL 9 yL_cell wsL_cell) := goodIn_app (goodIn_of _ (by decide +kernel)) ggL_pommelsOf_L_cell
set_option maxRecDepth 20000 in
theorem ggL_pommelsOf_L_below : GoodIn wsL_pommelsOf wsL_below := goodIn_r _ [8, 9] (by decide +kernel) (by decide +kernel)
set_option maxRecDepth 20000 in
theorem gL_pommelsOf_L_below : GoodIn wsL_pommelsOf (va_wsS RL 15 yL_below wsL_below) := goodIn_app (goodIn_of _ (by decide +kernel)) ggL_pommelsOf_L_below
theorem dL_pommelsOf_0 : decode cL_pommelsOf 0 = .ok (.iconst 1, 1) := by decide +kernel
theorem dL_pommelsOf_1 : decode cL_pommelsOf 1 = .ok (.aload_n 0, 1) := by decide +kernel
theorem dL_pommelsOf_2 : decode cL_pommelsOf 2 = .ok (.iload_n 1, 1) := by decide +kernel
theorem dL_pommelsOf_3 : decode cL_pommelsOf 3 = .ok (.invokestatic 9, 3) := by decide +kernel
theorem dL_pommelsOf_6 : decode cL_pommelsOf 6 = .ok (.bipush 7, 2) := by decide +kernel
theorem dL_pommelsOf_8 : decode cL_pommelsOf 8 = .ok (.ishr, 1) := by decide +kernel
theorem dL_pommelsOf_9 : decode cL_pommelsOf 9 = .ok (.iconst 4, 1) := by decide +kernel
theorem dL_pommelsOf_10 : decode cL_pommelsOf 10 = .ok (.invokestatic 15, 3) := by decide +kernel
theorem dL_pommelsOf_13 : decode cL_pommelsOf 13 = .ok (.iadd, 1) := by decide +kernel
theorem dL_pommelsOf_14 : decode cL_pommelsOf 14 = .ok (.ireturn, 1) := by decide +kernel
set_option maxRecDepth 20000 in
theorem ggL_towOf_L_cell : GoodIn wsL_towOf wsL_cell := goodIn_r _ [4, 5] (by decide +kernel) (by decide +kernel)
set_option maxRecDepth 20000 in
theorem gL_towOf_L_cell : GoodIn wsL_towOf (va_wsS RL 9 yL_cell wsL_cell) := goodIn_app (goodIn_of _ (by decide +kernel)) ggL_towOf_L_cell
set_option maxRecDepth 20000 in
theorem ggL_towOf_L_below : GoodIn wsL_towOf wsL_below := goodIn_r _ [8, 9] (by decide +kernel) (by decide +kernel)
set_option maxRecDepth 20000 in
theorem gL_towOf_L_below : GoodIn wsL_towOf (va_wsS RL 15 yL_below wsL_below) := goodIn_app (goodIn_of _ (by decide +kernel)) ggL_towOf_L_below
theorem dL_towOf_0 : decode cL_towOf 0 = .ok (.aload_n 0, 1) := by decide +kernel
theorem dL_towOf_1 : decode cL_towOf 1 = .ok (.bipush 6, 2) := by decide +kernel
theorem dL_towOf_3 : decode cL_towOf 3 = .ok (.iload_n 1, 1) := by decide +kernel
theorem dL_towOf_4 : decode cL_towOf 4 = .ok (.iadd, 1) := by decide +kernel
theorem dL_towOf_5 : decode cL_towOf 5 = .ok (.invokestatic 9, 3) := by decide +kernel
theorem dL_towOf_8 : decode cL_towOf 8 = .ok (.iconst 3, 1) := by decide +kernel
theorem dL_towOf_9 : decode cL_towOf 9 = .ok (.invokestatic 15, 3) := by decide +kernel
theorem dL_towOf_12 : decode cL_towOf 12 = .ok (.ireturn, 1) := by decide +kernel
set_option maxRecDepth 20000 in
theorem ggL_slopeOf_L_cell : GoodIn wsL_slopeOf wsL_cell := goodIn_r _ [4, 5] (by decide +kernel) (by decide +kernel)
set_option maxRecDepth 20000 in
theorem gL_slopeOf_L_cell : GoodIn wsL_slopeOf (va_wsS RL 9 yL_cell wsL_cell) := goodIn_app (goodIn_of _ (by decide +kernel)) ggL_slopeOf_L_cell
set_option maxRecDepth 20000 in
theorem ggL_slopeOf_L_below : GoodIn wsL_slopeOf wsL_below := goodIn_r _ [8, 9] (by decide +kernel) (by decide +kernel)
set_option maxRecDepth 20000 in
theorem gL_slopeOf_L_below : GoodIn wsL_slopeOf (va_wsS RL 15 yL_below wsL_below) := goodIn_app (goodIn_of _ (by decide +kernel)) ggL_slopeOf_L_below
theorem dL_slopeOf_0 : decode cL_slopeOf 0 = .ok (.iconst 1, 1) := by decide +kernel
theorem dL_slopeOf_1 : decode cL_slopeOf 1 = .ok (.aload_n 0, 1) := by decide +kernel
theorem dL_slopeOf_2 : decode cL_slopeOf 2 = .ok (.bipush 6, 2) := by decide +kernel
theorem dL_slopeOf_4 : decode cL_slopeOf 4 = .ok (.iload_n 1, 1) := by decide +kernel
theorem dL_slopeOf_5 : decode cL_slopeOf 5 = .ok (.iadd, 1) := by decide +kernel
theorem dL_slopeOf_6 : decode cL_slopeOf 6 = .ok (.invokestatic 9, 3) := by decide +kernel
theorem dL_slopeOf_9 : decode cL_slopeOf 9 = .ok (.iconst 4, 1) := by decide +kernel
theorem dL_slopeOf_10 : decode cL_slopeOf 10 = .ok (.ishr, 1) := by decide +kernel
theorem dL_slopeOf_11 : decode cL_slopeOf 11 = .ok (.bipush 9, 2) := by decide +kernel
theorem dL_slopeOf_13 : decode cL_slopeOf 13 = .ok (.invokestatic 15, 3) := by decide +kernel
theorem dL_slopeOf_16 : decode cL_slopeOf 16 = .ok (.iadd, 1) := by decide +kernel
theorem dL_slopeOf_17 : decode cL_slopeOf 17 = .ok (.ireturn, 1) := by decide +kernel
set_option maxRecDepth 20000 in
theorem ggL_skillOf_L_cell : GoodIn wsL_skillOf wsL_cell := goodIn_r _ [4, 5] (by decide +kernel) (by decide +kernel)
set_option maxRecDepth 20000 in
theorem gL_skillOf_L_cell : GoodIn wsL_skillOf (va_wsS RL 9 yL_cell wsL_cell) := goodIn_app (goodIn_of _ (by decide +kernel)) ggL_skillOf_L_cell
set_option maxRecDepth 20000 in
theorem ggL_skillOf_L_below : GoodIn wsL_skillOf wsL_below := goodIn_r _ [8, 9] (by decide +kernel) (by decide +kernel)
set_option maxRecDepth 20000 in
theorem gL_skillOf_L_below : GoodIn wsL_skillOf (va_wsS RL 15 yL_below wsL_below) := goodIn_app (goodIn_of _ (by decide +kernel)) ggL_skillOf_L_below
theorem dL_skillOf_0 : decode cL_skillOf 0 = .ok (.iconst 1, 1) := by decide +kernel
theorem dL_skillOf_1 : decode cL_skillOf 1 = .ok (.aload_n 0, 1) := by decide +kernel
theorem dL_skillOf_2 : decode cL_skillOf 2 = .ok (.bipush 10, 2) := by decide +kernel
theorem dL_skillOf_4 : decode cL_skillOf 4 = .ok (.iload_n 1, 1) := by decide +kernel
theorem dL_skillOf_5 : decode cL_skillOf 5 = .ok (.iadd, 1) := by decide +kernel
theorem dL_skillOf_6 : decode cL_skillOf 6 = .ok (.invokestatic 9, 3) := by decide +kernel
theorem dL_skillOf_9 : decode cL_skillOf 9 = .ok (.bipush 9, 2) := by decide +kernel
theorem dL_skillOf_11 : decode cL_skillOf 11 = .ok (.invokestatic 15, 3) := by decide +kernel
theorem dL_skillOf_14 : decode cL_skillOf 14 = .ok (.iadd, 1) := by decide +kernel
theorem dL_skillOf_15 : decode cL_skillOf 15 = .ok (.ireturn, 1) := by decide +kernel
set_option maxRecDepth 20000 in
theorem ggL_coinsOf_L_cell : GoodIn wsL_coinsOf wsL_cell := goodIn_r _ [4, 5] (by decide +kernel) (by decide +kernel)
set_option maxRecDepth 20000 in
theorem gL_coinsOf_L_cell : GoodIn wsL_coinsOf (va_wsS RL 9 yL_cell wsL_cell) := goodIn_app (goodIn_of _ (by decide +kernel)) ggL_coinsOf_L_cell
set_option maxRecDepth 20000 in
theorem ggL_coinsOf_L_below : GoodIn wsL_coinsOf wsL_below := goodIn_r _ [8, 9] (by decide +kernel) (by decide +kernel)
set_option maxRecDepth 20000 in
theorem gL_coinsOf_L_below : GoodIn wsL_coinsOf (va_wsS RL 15 yL_below wsL_below) := goodIn_app (goodIn_of _ (by decide +kernel)) ggL_coinsOf_L_below
theorem dL_coinsOf_0 : decode cL_coinsOf 0 = .ok (.aload_n 0, 1) := by decide +kernel
theorem dL_coinsOf_1 : decode cL_coinsOf 1 = .ok (.bipush 10, 2) := by decide +kernel
theorem dL_coinsOf_3 : decode cL_coinsOf 3 = .ok (.iload_n 1, 1) := by decide +kernel
theorem dL_coinsOf_4 : decode cL_coinsOf 4 = .ok (.iadd, 1) := by decide +kernel
theorem dL_coinsOf_5 : decode cL_coinsOf 5 = .ok (.invokestatic 9, 3) := by decide +kernel
theorem dL_coinsOf_8 : decode cL_coinsOf 8 = .ok (.iconst 5, 1) := by decide +kernel
theorem dL_coinsOf_9 : decode cL_coinsOf 9 = .ok (.ishr, 1) := by decide +kernel
theorem dL_coinsOf_10 : decode cL_coinsOf 10 = .ok (.aload_n 0, 1) := by decide +kernel
theorem dL_coinsOf_11 : decode cL_coinsOf 11 = .ok (.bipush 10, 2) := by decide +kernel
theorem dL_coinsOf_13 : decode cL_coinsOf 13 = .ok (.iload_n 1, 1) := by decide +kernel
theorem dL_coinsOf_14 : decode cL_coinsOf 14 = .ok (.iadd, 1) := by decide +kernel
theorem dL_coinsOf_15 : decode cL_coinsOf 15 = .ok (.invokestatic 9, 3) := by decide +kernel
theorem dL_coinsOf_18 : decode cL_coinsOf 18 = .ok (.bipush 12, 2) := by decide +kernel
theorem dL_coinsOf_20 : decode cL_coinsOf 20 = .ok (.ishr, 1) := by decide +kernel
theorem dL_coinsOf_21 : decode cL_coinsOf 21 = .ok (.iconst 3, 1) := by decide +kernel
theorem dL_coinsOf_22 : decode cL_coinsOf 22 = .ok (.invokestatic 15, 3) := by decide +kernel
theorem dL_coinsOf_25 : decode cL_coinsOf 25 = .ok (.ifCond .ne 8, 3) := by decide +kernel
theorem dL_coinsOf_28 : decode cL_coinsOf 28 = .ok (.bipush 61, 2) := by decide +kernel
theorem dL_coinsOf_30 : decode cL_coinsOf 30 = .ok (.goto 5, 3) := by decide +kernel
theorem dL_coinsOf_33 : decode cL_coinsOf 33 = .ok (.bipush 9, 2) := by decide +kernel
theorem dL_coinsOf_35 : decode cL_coinsOf 35 = .ok (.invokestatic 15, 3) := by decide +kernel
theorem dL_coinsOf_38 : decode cL_coinsOf 38 = .ok (.ireturn, 1) := by decide +kernel
set_option maxRecDepth 20000 in
theorem ggL_waxOf_L_coinsOf : GoodIn wsL_waxOf wsL_coinsOf := goodIn_r _ [4, 5, 6, 3, 7, 8, 9, 10, 11, 12] (by decide +kernel) (by decide +kernel)
set_option maxRecDepth 20000 in
theorem gL_waxOf_L_coinsOf : GoodIn wsL_waxOf (va_wsS RL 19 yL_coinsOf wsL_coinsOf) := goodIn_app (goodIn_of _ (by decide +kernel)) ggL_waxOf_L_coinsOf
set_option maxRecDepth 20000 in
theorem ggL_waxOf_L_cell : GoodIn wsL_waxOf wsL_cell := goodIn_r _ [7, 8] (by decide +kernel) (by decide +kernel)
set_option maxRecDepth 20000 in
theorem gL_waxOf_L_cell : GoodIn wsL_waxOf (va_wsS RL 9 yL_cell wsL_cell) := goodIn_app (goodIn_of _ (by decide +kernel)) ggL_waxOf_L_cell
set_option maxRecDepth 20000 in
theorem ggL_waxOf_L_below : GoodIn wsL_waxOf wsL_below := goodIn_r _ [11, 12] (by decide +kernel) (by decide +kernel)
set_option maxRecDepth 20000 in
theorem gL_waxOf_L_below : GoodIn wsL_waxOf (va_wsS RL 15 yL_below wsL_below) := goodIn_app (goodIn_of _ (by decide +kernel)) ggL_waxOf_L_below
theorem dL_waxOf_0 : decode cL_waxOf 0 = .ok (.aload_n 0, 1) := by decide +kernel
theorem dL_waxOf_1 : decode cL_waxOf 1 = .ok (.iload_n 1, 1) := by decide +kernel
theorem dL_waxOf_2 : decode cL_waxOf 2 = .ok (.invokestatic 19, 3) := by decide +kernel
theorem dL_waxOf_5 : decode cL_waxOf 5 = .ok (.iconst 2, 1) := by decide +kernel
theorem dL_waxOf_6 : decode cL_waxOf 6 = .ok (.if_icmp .ge 7, 3) := by decide +kernel
theorem dL_waxOf_9 : decode cL_waxOf 9 = .ok (.iconst (-1), 1) := by decide +kernel
theorem dL_waxOf_10 : decode cL_waxOf 10 = .ok (.goto 20, 3) := by decide +kernel
theorem dL_waxOf_13 : decode cL_waxOf 13 = .ok (.aload_n 0, 1) := by decide +kernel
theorem dL_waxOf_14 : decode cL_waxOf 14 = .ok (.bipush 10, 2) := by decide +kernel
theorem dL_waxOf_16 : decode cL_waxOf 16 = .ok (.iload_n 1, 1) := by decide +kernel
theorem dL_waxOf_17 : decode cL_waxOf 17 = .ok (.iadd, 1) := by decide +kernel
theorem dL_waxOf_18 : decode cL_waxOf 18 = .ok (.invokestatic 9, 3) := by decide +kernel
theorem dL_waxOf_21 : decode cL_waxOf 21 = .ok (.bipush 9, 2) := by decide +kernel
theorem dL_waxOf_23 : decode cL_waxOf 23 = .ok (.ishr, 1) := by decide +kernel
theorem dL_waxOf_24 : decode cL_waxOf 24 = .ok (.iconst 5, 1) := by decide +kernel
theorem dL_waxOf_25 : decode cL_waxOf 25 = .ok (.invokestatic 15, 3) := by decide +kernel
theorem dL_waxOf_28 : decode cL_waxOf 28 = .ok (.iconst 1, 1) := by decide +kernel
theorem dL_waxOf_29 : decode cL_waxOf 29 = .ok (.isub, 1) := by decide +kernel
theorem dL_waxOf_30 : decode cL_waxOf 30 = .ok (.ireturn, 1) := by decide +kernel
set_option maxRecDepth 20000 in
theorem ggL_standsOf_L_cell : GoodIn wsL_standsOf wsL_cell := goodIn_r _ [4, 5] (by decide +kernel) (by decide +kernel)
set_option maxRecDepth 20000 in
theorem gL_standsOf_L_cell : GoodIn wsL_standsOf (va_wsS RL 9 yL_cell wsL_cell) := goodIn_app (goodIn_of _ (by decide +kernel)) ggL_standsOf_L_cell
set_option maxRecDepth 20000 in
theorem ggL_standsOf_L_below : GoodIn wsL_standsOf wsL_below := goodIn_r _ [8, 9] (by decide +kernel) (by decide +kernel)
set_option maxRecDepth 20000 in
theorem gL_standsOf_L_below : GoodIn wsL_standsOf (va_wsS RL 15 yL_below wsL_below) := goodIn_app (goodIn_of _ (by decide +kernel)) ggL_standsOf_L_below
theorem dL_standsOf_0 : decode cL_standsOf 0 = .ok (.aload_n 0, 1) := by decide +kernel
theorem dL_standsOf_1 : decode cL_standsOf 1 = .ok (.bipush 10, 2) := by decide +kernel
theorem dL_standsOf_3 : decode cL_standsOf 3 = .ok (.iload_n 1, 1) := by decide +kernel
theorem dL_standsOf_4 : decode cL_standsOf 4 = .ok (.iadd, 1) := by decide +kernel
theorem dL_standsOf_5 : decode cL_standsOf 5 = .ok (.invokestatic 9, 3) := by decide +kernel
theorem dL_standsOf_8 : decode cL_standsOf 8 = .ok (.bipush 15, 2) := by decide +kernel
theorem dL_standsOf_10 : decode cL_standsOf 10 = .ok (.ishr, 1) := by decide +kernel
theorem dL_standsOf_11 : decode cL_standsOf 11 = .ok (.iconst 4, 1) := by decide +kernel
theorem dL_standsOf_12 : decode cL_standsOf 12 = .ok (.invokestatic 15, 3) := by decide +kernel
theorem dL_standsOf_15 : decode cL_standsOf 15 = .ok (.iconst 1, 1) := by decide +kernel
theorem dL_standsOf_16 : decode cL_standsOf 16 = .ok (.isub, 1) := by decide +kernel
theorem dL_standsOf_17 : decode cL_standsOf 17 = .ok (.ireturn, 1) := by decide +kernel
set_option maxRecDepth 20000 in
theorem ggL_village_X3_init : GoodIn wsL_village wsX3_init := goodIn_r _ [6, 7, 8, 9, 10, 11, 12, 13, 14, 15, 16, 17, 18, 19, 20, 21, 22, 23, 24, 25, 26, 27, 28, 29, 30, 31, 32, 33, 34, 35, 36, 37, 38, 39, 40, 41, 42, 43, 44, 45, 46, 47, 48, 49, 50, 51, 52, 164, 165, 166, 167, 168, 169, 170, 162, 163, 171, 172, 173, 174, 175, 176, 177, 178, 179, 180, 181, 182, 183, 184] (by decide +kernel) (by decide +kernel)
set_option maxRecDepth 20000 in
theorem gL_village_X3_init : GoodIn wsL_village (wsX3_init) := ggL_village_X3_init
set_option maxRecDepth 20000 in
theorem ggL_village_L_flakeOf : GoodIn wsL_village wsL_flakeOf := goodIn_r _ [56, 57, 58, 55, 59, 60, 61, 62, 63, 64] (by decide +kernel) (by decide +kernel)
set_option maxRecDepth 20000 in
theorem gL_village_L_flakeOf : GoodIn wsL_village (va_wsS RL 25 yL_flakeOf wsL_flakeOf) := goodIn_app (goodIn_of _ (by decide +kernel)) ggL_village_L_flakeOf
set_option maxRecDepth 20000 in
theorem ggL_village_X3_setFlake : GoodIn wsL_village wsX3_setFlake := goodIn_ca (goodIn_ca (goodIn_r _ [68, 69, 70, 71, 72, 13, 73, 74, 75, 3, 76, 162, 163, 164, 165, 166, 167, 168, 169, 170] (by decide +kernel) (by decide +kernel)) (goodIn_sub (fun _ h => List.mem_cons_of_mem _ (List.mem_append_left _ (List.mem_append_left _ (List.mem_append_right _ h)))) (by decide +kernel))) (goodIn_sub (fun _ h => List.mem_cons_of_mem _ (List.mem_append_left _ (List.mem_append_right _ h))) (by decide +kernel))
set_option maxRecDepth 20000 in
theorem gL_village_X3_setFlake : GoodIn wsL_village (wsV RL 28 RX3 yX3_setFlake wsX3_setFlake) := goodIn_app (goodIn_of _ (by decide +kernel)) ggL_village_X3_setFlake
set_option maxRecDepth 20000 in
theorem ggL_village_L_pommelsOf : GoodIn wsL_village wsL_pommelsOf := goodIn_r _ [79, 57, 58, 55, 59, 60, 61, 62, 63, 64] (by decide +kernel) (by decide +kernel)
set_option maxRecDepth 20000 in
theorem gL_village_L_pommelsOf : GoodIn wsL_village (va_wsS RL 31 yL_pommelsOf wsL_pommelsOf) := goodIn_app (goodIn_of _ (by decide +kernel)) ggL_village_L_pommelsOf
set_option maxRecDepth 20000 in
theorem ggL_village_X3_setPommels : GoodIn wsL_village wsX3_setPommels := goodIn_ca (goodIn_ca (goodIn_r _ [83, 69, 70, 71, 72, 13, 84, 74, 75, 3, 76, 162, 163, 164, 165, 166, 167, 168, 169, 170] (by decide +kernel) (by decide +kernel)) (goodIn_sub (fun _ h => List.mem_cons_of_mem _ (List.mem_append_left _ (List.mem_append_left _ (List.mem_append_right _ h)))) (by decide +kernel))) (goodIn_sub (fun _ h => List.mem_cons_of_mem _ (List.mem_append_left _ (List.mem_append_right _ h))) (by decide +kernel))
set_option maxRecDepth 20000 in
theorem gL_village_X3_setPommels : GoodIn wsL_village (wsV RL 34 RX3 yX3_setPommels wsX3_setPommels) := goodIn_app (goodIn_of _ (by decide +kernel)) ggL_village_X3_setPommels
set_option maxRecDepth 20000 in
theorem ggL_village_L_towOf : GoodIn wsL_village wsL_towOf := goodIn_r _ [87, 57, 58, 55, 59, 60, 61, 62, 63, 64] (by decide +kernel) (by decide +kernel)
set_option maxRecDepth 20000 in
theorem gL_village_L_towOf : GoodIn wsL_village (va_wsS RL 37 yL_towOf wsL_towOf) := goodIn_app (goodIn_of _ (by decide +kernel)) ggL_village_L_towOf
set_option maxRecDepth 20000 in
theorem ggL_village_L_slopeOf : GoodIn wsL_village wsL_slopeOf := goodIn_r _ [90, 57, 58, 55, 59, 60, 61, 62, 63, 64] (by decide +kernel) (by decide +kernel)
set_option maxRecDepth 20000 in
theorem gL_village_L_slopeOf : GoodIn wsL_village (va_wsS RL 40 yL_slopeOf wsL_slopeOf) := goodIn_app (goodIn_of _ (by decide +kernel)) ggL_village_L_slopeOf
set_option maxRecDepth 20000 in
theorem ggL_village_X3_run : GoodIn wsL_village wsX3_run := goodIn_ca (goodIn_ca (goodIn_ca (goodIn_r _ [94, 69, 70, 71, 72, 95, 96, 13, 97, 74, 75, 3, 76, 98, 99, 100, 27, 101, 36, 102, 103, 104, 105, 37, 38, 39, 162, 163, 164, 165, 166, 167, 168, 169, 170, 171, 172, 173, 174, 175] (by decide +kernel) (by decide +kernel)) (goodIn_sub (fun _ h => List.mem_cons_of_mem _ (List.mem_append_left _ (List.mem_append_left _ (List.mem_append_right _ h)))) (by decide +kernel))) (goodIn_sub (fun _ h => List.mem_cons_of_mem _ (List.mem_append_left _ (List.mem_append_right _ h))) (by decide +kernel))) (goodIn_sub (fun _ h => List.mem_cons_of_mem _ (List.mem_append_right _ h)) (by decide +kernel))
set_option maxRecDepth 20000 in
theorem gL_village_X3_run : GoodIn wsL_village (wsV RL 43 RX3 yX3_run wsX3_run) := goodIn_app (goodIn_of _ (by decide +kernel)) ggL_village_X3_run
set_option maxRecDepth 20000 in
theorem ggL_village_L_skillOf : GoodIn wsL_village wsL_skillOf := goodIn_r _ [108, 57, 58, 55, 59, 60, 61, 62, 63, 64] (by decide +kernel) (by decide +kernel)
set_option maxRecDepth 20000 in
theorem gL_village_L_skillOf : GoodIn wsL_village (va_wsS RL 46 yL_skillOf wsL_skillOf) := goodIn_app (goodIn_of _ (by decide +kernel)) ggL_village_L_skillOf
set_option maxRecDepth 20000 in
theorem ggL_village_L_coinsOf : GoodIn wsL_village wsL_coinsOf := goodIn_r _ [111, 57, 58, 55, 59, 60, 61, 62, 63, 64] (by decide +kernel) (by decide +kernel)
set_option maxRecDepth 20000 in
theorem gL_village_L_coinsOf : GoodIn wsL_village (va_wsS RL 19 yL_coinsOf wsL_coinsOf) := goodIn_app (goodIn_of _ (by decide +kernel)) ggL_village_L_coinsOf
set_option maxRecDepth 20000 in
theorem ggL_village_X3_skier : GoodIn wsL_village wsX3_skier := goodIn_ca (goodIn_ca (goodIn_r _ [115, 71, 72, 95, 96, 13, 116, 74, 75, 3, 76, 117, 118, 119, 31, 120, 44, 121, 122, 123, 124, 45, 46, 51, 162, 163, 164, 165, 166, 167, 168, 169, 170, 176, 177, 178, 179, 180, 181, 182, 183, 184] (by decide +kernel) (by decide +kernel)) (goodIn_sub (fun _ h => List.mem_cons_of_mem _ (List.mem_append_left _ (List.mem_append_right _ h))) (by decide +kernel))) (goodIn_sub (fun _ h => List.mem_cons_of_mem _ (List.mem_append_right _ h)) (by decide +kernel))
set_option maxRecDepth 20000 in
theorem gL_village_X3_skier : GoodIn wsL_village (wsV RL 49 RX3 yX3_skier wsX3_skier) := goodIn_app (goodIn_of _ (by decide +kernel)) ggL_village_X3_skier
set_option maxRecDepth 20000 in
theorem ggL_village_L_waxOf : GoodIn wsL_village wsL_waxOf := goodIn_r _ [127, 109, 110, 55, 111, 57, 58, 59, 60, 61, 62, 63, 64] (by decide +kernel) (by decide +kernel)
set_option maxRecDepth 20000 in
theorem gL_village_L_waxOf : GoodIn wsL_village (va_wsS RL 52 yL_waxOf wsL_waxOf) := goodIn_app (goodIn_of _ (by decide +kernel)) ggL_village_L_waxOf
set_option maxRecDepth 20000 in
theorem ggL_village_X3_wax : GoodIn wsL_village wsX3_wax := goodIn_ca (goodIn_ca (goodIn_ca (goodIn_r _ [131, 69, 70, 71, 72, 95, 96, 13, 116, 132, 133, 134, 135, 136, 31, 137, 44, 74, 75, 3, 76, 138, 139, 140, 141, 47, 48, 162, 163, 164, 165, 166, 167, 168, 169, 170, 176, 177, 178, 179, 180, 181, 182, 183, 184] (by decide +kernel) (by decide +kernel)) (goodIn_sub (fun _ h => List.mem_cons_of_mem _ (List.mem_append_left _ (List.mem_append_left _ (List.mem_append_right _ h)))) (by decide +kernel))) (goodIn_sub (fun _ h => List.mem_cons_of_mem _ (List.mem_append_left _ (List.mem_append_right _ h))) (by decide +kernel))) (goodIn_sub (fun _ h => List.mem_cons_of_mem _ (List.mem_append_right _ h)) (by decide +kernel))
set_option maxRecDepth 20000 in
theorem gL_village_X3_wax : GoodIn wsL_village (wsV RL 55 RX3 yX3_wax wsX3_wax) := goodIn_app (goodIn_of _ (by decide +kernel)) ggL_village_X3_wax
set_option maxRecDepth 20000 in
theorem ggL_village_L_standsOf : GoodIn wsL_village wsL_standsOf := goodIn_r _ [144, 57, 58, 55, 59, 60, 61, 62, 63, 64] (by decide +kernel) (by decide +kernel)
set_option maxRecDepth 20000 in
theorem gL_village_L_standsOf : GoodIn wsL_village (va_wsS RL 58 yL_standsOf wsL_standsOf) := goodIn_app (goodIn_of _ (by decide +kernel)) ggL_village_L_standsOf
set_option maxRecDepth 20000 in
theorem ggL_village_X3_join : GoodIn wsL_village wsX3_join := goodIn_ca (goodIn_r _ [148, 69, 70, 13, 116, 149, 134, 135, 136, 31, 137, 44, 74, 75, 3, 76, 150, 151, 152, 153, 51, 52, 154, 155, 156, 157, 158, 159, 160, 161, 162, 163, 164, 165, 166, 167, 168, 169, 170, 176, 177, 178, 179, 180, 181, 182, 183, 184] (by decide +kernel) (by decide +kernel)) (goodIn_sub (fun _ h => List.mem_cons_of_mem _ (List.mem_append_left _ (List.mem_append_left _ (List.mem_append_right _ h)))) (by decide +kernel))
set_option maxRecDepth 20000 in
theorem gL_village_X3_join : GoodIn wsL_village (wsV RL 61 RX3 yX3_join wsX3_join) := goodIn_app (goodIn_of _ (by decide +kernel)) ggL_village_X3_join
theorem dL_village_0 : decode cL_village 0 = .ok (.new 22, 3) := by decide +kernel
theorem dL_village_3 : decode cL_village 3 = .ok (.dup, 1) := by decide +kernel
theorem dL_village_4 : decode cL_village 4 = .ok (.invokespecial 24, 3) := by decide +kernel
theorem dL_village_7 : decode cL_village 7 = .ok (.astore_n 1, 1) := by decide +kernel
theorem dL_village_8 : decode cL_village 8 = .ok (.iconst 0, 1) := by decide +kernel
theorem dL_village_9 : decode cL_village 9 = .ok (.istore_n 2, 1) := by decide +kernel
theorem dL_village_10 : decode cL_village 10 = .ok (.iload_n 2, 1) := by decide +kernel
theorem dL_village_11 : decode cL_village 11 = .ok (.bipush 6, 2) := by decide +kernel
theorem dL_village_13 : decode cL_village 13 = .ok (.if_icmp .ge 20, 3) := by decide +kernel
theorem dL_village_16 : decode cL_village 16 = .ok (.aload_n 1, 1) := by decide +kernel
theorem dL_village_17 : decode cL_village 17 = .ok (.iload_n 2, 1) := by decide +kernel
theorem dL_village_18 : decode cL_village 18 = .ok (.aload_n 0, 1) := by decide +kernel
theorem dL_village_19 : decode cL_village 19 = .ok (.iload_n 2, 1) := by decide +kernel
theorem dL_village_20 : decode cL_village 20 = .ok (.invokestatic 25, 3) := by decide +kernel
theorem dL_village_23 : decode cL_village 23 = .ok (.invokevirtual 28, 3) := by decide +kernel
theorem dL_village_26 : decode cL_village 26 = .ok (.pop, 1) := by decide +kernel
theorem dL_village_27 : decode cL_village 27 = .ok (.iinc 2 1, 3) := by decide +kernel
theorem dL_village_30 : decode cL_village 30 = .ok (.goto (-20), 3) := by decide +kernel
theorem dL_village_33 : decode cL_village 33 = .ok (.iconst 0, 1) := by decide +kernel
theorem dL_village_34 : decode cL_village 34 = .ok (.istore_n 2, 1) := by decide +kernel
theorem dL_village_35 : decode cL_village 35 = .ok (.iload_n 2, 1) := by decide +kernel
theorem dL_village_36 : decode cL_village 36 = .ok (.iconst 3, 1) := by decide +kernel
theorem dL_village_37 : decode cL_village 37 = .ok (.if_icmp .ge 20, 3) := by decide +kernel
theorem dL_village_40 : decode cL_village 40 = .ok (.aload_n 1, 1) := by decide +kernel
theorem dL_village_41 : decode cL_village 41 = .ok (.iload_n 2, 1) := by decide +kernel
theorem dL_village_42 : decode cL_village 42 = .ok (.aload_n 0, 1) := by decide +kernel
theorem dL_village_43 : decode cL_village 43 = .ok (.iload_n 2, 1) := by decide +kernel
theorem dL_village_44 : decode cL_village 44 = .ok (.invokestatic 31, 3) := by decide +kernel
theorem dL_village_47 : decode cL_village 47 = .ok (.invokevirtual 34, 3) := by decide +kernel
theorem dL_village_50 : decode cL_village 50 = .ok (.pop, 1) := by decide +kernel
theorem dL_village_51 : decode cL_village 51 = .ok (.iinc 2 1, 3) := by decide +kernel
theorem dL_village_54 : decode cL_village 54 = .ok (.goto (-19), 3) := by decide +kernel
theorem dL_village_57 : decode cL_village 57 = .ok (.iconst 0, 1) := by decide +kernel
theorem dL_village_58 : decode cL_village 58 = .ok (.istore_n 2, 1) := by decide +kernel
theorem dL_village_59 : decode cL_village 59 = .ok (.iload_n 2, 1) := by decide +kernel
theorem dL_village_60 : decode cL_village 60 = .ok (.iconst 4, 1) := by decide +kernel
theorem dL_village_61 : decode cL_village 61 = .ok (.if_icmp .ge 24, 3) := by decide +kernel
theorem dL_village_64 : decode cL_village 64 = .ok (.aload_n 1, 1) := by decide +kernel
theorem dL_village_65 : decode cL_village 65 = .ok (.aload_n 0, 1) := by decide +kernel
theorem dL_village_66 : decode cL_village 66 = .ok (.iload_n 2, 1) := by decide +kernel
theorem dL_village_67 : decode cL_village 67 = .ok (.invokestatic 37, 3) := by decide +kernel
theorem dL_village_70 : decode cL_village 70 = .ok (.aload_n 0, 1) := by decide +kernel
theorem dL_village_71 : decode cL_village 71 = .ok (.iload_n 2, 1) := by decide +kernel
theorem dL_village_72 : decode cL_village 72 = .ok (.invokestatic 40, 3) := by decide +kernel
theorem dL_village_75 : decode cL_village 75 = .ok (.invokevirtual 43, 3) := by decide +kernel
theorem dL_village_78 : decode cL_village 78 = .ok (.pop, 1) := by decide +kernel
theorem dL_village_79 : decode cL_village 79 = .ok (.iinc 2 1, 3) := by decide +kernel
theorem dL_village_82 : decode cL_village 82 = .ok (.goto (-23), 3) := by decide +kernel
theorem dL_village_85 : decode cL_village 85 = .ok (.iconst 0, 1) := by decide +kernel
theorem dL_village_86 : decode cL_village 86 = .ok (.istore_n 2, 1) := by decide +kernel
theorem dL_village_87 : decode cL_village 87 = .ok (.iload_n 2, 1) := by decide +kernel
theorem dL_village_88 : decode cL_village 88 = .ok (.iconst 5, 1) := by decide +kernel
theorem dL_village_89 : decode cL_village 89 = .ok (.if_icmp .ge 62, 3) := by decide +kernel
theorem dL_village_92 : decode cL_village 92 = .ok (.aload_n 1, 1) := by decide +kernel
theorem dL_village_93 : decode cL_village 93 = .ok (.aload_n 0, 1) := by decide +kernel
theorem dL_village_94 : decode cL_village 94 = .ok (.iload_n 2, 1) := by decide +kernel
theorem dL_village_95 : decode cL_village 95 = .ok (.invokestatic 46, 3) := by decide +kernel
theorem dL_village_98 : decode cL_village 98 = .ok (.aload_n 0, 1) := by decide +kernel
theorem dL_village_99 : decode cL_village 99 = .ok (.iload_n 2, 1) := by decide +kernel
theorem dL_village_100 : decode cL_village 100 = .ok (.invokestatic 19, 3) := by decide +kernel
theorem dL_village_103 : decode cL_village 103 = .ok (.invokevirtual 49, 3) := by decide +kernel
theorem dL_village_106 : decode cL_village 106 = .ok (.pop, 1) := by decide +kernel
theorem dL_village_107 : decode cL_village 107 = .ok (.aload_n 0, 1) := by decide +kernel
theorem dL_village_108 : decode cL_village 108 = .ok (.iload_n 2, 1) := by decide +kernel
theorem dL_village_109 : decode cL_village 109 = .ok (.invokestatic 52, 3) := by decide +kernel
theorem dL_village_112 : decode cL_village 112 = .ok (.ifCond .lt 14, 3) := by decide +kernel
theorem dL_village_115 : decode cL_village 115 = .ok (.aload_n 1, 1) := by decide +kernel
theorem dL_village_116 : decode cL_village 116 = .ok (.iload_n 2, 1) := by decide +kernel
theorem dL_village_117 : decode cL_village 117 = .ok (.aload_n 0, 1) := by decide +kernel
theorem dL_village_118 : decode cL_village 118 = .ok (.iload_n 2, 1) := by decide +kernel
theorem dL_village_119 : decode cL_village 119 = .ok (.invokestatic 52, 3) := by decide +kernel
theorem dL_village_122 : decode cL_village 122 = .ok (.invokevirtual 55, 3) := by decide +kernel
theorem dL_village_125 : decode cL_village 125 = .ok (.pop, 1) := by decide +kernel
theorem dL_village_126 : decode cL_village 126 = .ok (.aload_n 0, 1) := by decide +kernel
theorem dL_village_127 : decode cL_village 127 = .ok (.iload_n 2, 1) := by decide +kernel
theorem dL_village_128 : decode cL_village 128 = .ok (.invokestatic 58, 3) := by decide +kernel
theorem dL_village_131 : decode cL_village 131 = .ok (.ifCond .lt 14, 3) := by decide +kernel
theorem dL_village_134 : decode cL_village 134 = .ok (.aload_n 1, 1) := by decide +kernel
theorem dL_village_135 : decode cL_village 135 = .ok (.iload_n 2, 1) := by decide +kernel
theorem dL_village_136 : decode cL_village 136 = .ok (.aload_n 0, 1) := by decide +kernel
theorem dL_village_137 : decode cL_village 137 = .ok (.iload_n 2, 1) := by decide +kernel
theorem dL_village_138 : decode cL_village 138 = .ok (.invokestatic 58, 3) := by decide +kernel
theorem dL_village_141 : decode cL_village 141 = .ok (.invokevirtual 61, 3) := by decide +kernel
theorem dL_village_144 : decode cL_village 144 = .ok (.pop, 1) := by decide +kernel
theorem dL_village_145 : decode cL_village 145 = .ok (.iinc 2 1, 3) := by decide +kernel
theorem dL_village_148 : decode cL_village 148 = .ok (.goto (-61), 3) := by decide +kernel
theorem dL_village_151 : decode cL_village 151 = .ok (.aload_n 1, 1) := by decide +kernel
theorem dL_village_152 : decode cL_village 152 = .ok (.areturn, 1) := by decide +kernel
set_option maxRecDepth 20000 in
theorem ggL_law_L_village : GoodIn wsL_law wsL_village := goodIn_ca (goodIn_ca (goodIn_ca (goodIn_r _ [4, 5, 6, 7, 8, 9, 10, 11, 12, 13, 14, 15, 16, 17, 18, 19, 20, 21, 22, 23, 24, 25, 26, 27, 28, 29, 30, 31, 32, 33, 34, 35, 36, 37, 38, 39, 40, 41, 42, 43, 44, 45, 46, 47, 48, 49, 50, 51, 52, 53, 54, 55, 56, 57, 58, 3, 59, 60, 61, 62, 63, 64, 65, 66, 67, 68, 69, 70, 71, 72, 73, 74, 75, 76, 77, 78, 79, 80, 81, 82, 83, 84, 85, 86, 87, 88, 89, 90, 91, 92, 93, 94, 95, 96, 97, 98, 99, 100, 101, 102, 103, 104, 105, 106, 107, 108, 109, 110, 111, 112, 113, 114, 115, 116, 117, 118, 119, 120, 121, 122, 123, 124, 125, 126, 127, 128, 129, 130, 131, 132, 133, 134, 135, 136, 137, 138, 139, 140, 141, 142, 143, 144, 145, 146, 147, 148, 149, 150, 151, 152, 153, 154, 155, 156, 157, 158, 159, 160, 161, 162, 163, 164, 361, 362, 363, 364, 365, 366, 367, 368, 369, 370, 371, 372, 373, 374, 375, 376, 377, 378, 379, 380, 381, 382, 383] (by decide +kernel) (by decide +kernel)) (goodIn_sub (fun _ h => List.mem_append_left _ (List.mem_append_left _ (List.mem_append_right _ h))) (by decide +kernel))) (goodIn_sub (fun _ h => List.mem_append_left _ (List.mem_append_right _ h)) (by decide +kernel))) (goodIn_sub (fun _ h => List.mem_append_right _ h) (by decide +kernel))
set_option maxRecDepth 20000 in
theorem gL_law_L_village : GoodIn wsL_law (va_wsS RL 64 yL_village wsL_village) := goodIn_app (goodIn_of _ (by decide +kernel)) ggL_law_L_village
set_option maxRecDepth 20000 in
theorem ggL_law_X3_count : GoodIn wsL_law wsX3_count := goodIn_ca (goodIn_r _ [168, 72, 73, 17, 77, 78, 7, 79, 169, 170, 171, 16, 172, 23, 24, 32, 173, 36, 174, 175, 176, 177, 178, 26, 179, 180, 181, 182, 183, 184, 185, 31, 186, 40, 187, 188, 189, 190, 43, 42, 191, 192, 193, 194, 28, 195, 196, 197, 35, 198, 48, 55, 199, 200, 201, 202, 53, 361, 362, 363, 364, 365, 366, 367, 368, 369, 370, 371, 372, 373, 374, 375, 376, 377, 378, 379, 380, 381, 382, 383] (by decide +kernel) (by decide +kernel)) (goodIn_sub (fun _ h => List.mem_append_left _ (List.mem_append_left _ (List.mem_append_right _ h))) (by decide +kernel))
set_option maxRecDepth 20000 in
theorem gL_law_X3_count : GoodIn wsL_law (wsV RL 68 RX3 yX3_count wsX3_count) := goodIn_app (goodIn_of _ (by decide +kernel)) ggL_law_X3_count
set_option maxRecDepth 20000 in
theorem ggL_law_X3_told : GoodIn wsL_law wsX3_told := goodIn_ca (goodIn_r _ [206, 72, 73, 17, 119, 137, 138, 139, 35, 140, 48, 77, 78, 7, 79, 207, 208, 209, 210, 49, 50, 52, 51, 53, 54, 55, 361, 362, 363, 364, 365, 366, 367, 368, 369, 375, 376, 377, 378, 379, 380, 381, 382, 383] (by decide +kernel) (by decide +kernel)) (goodIn_sub (fun _ h => List.mem_append_left _ (List.mem_append_left _ (List.mem_append_right _ h))) (by decide +kernel))
set_option maxRecDepth 20000 in
theorem gL_law_X3_told : GoodIn wsL_law (wsV RL 72 RX3 yX3_told wsX3_told) := goodIn_app (goodIn_of _ (by decide +kernel)) ggL_law_X3_told
set_option maxRecDepth 20000 in
theorem ggL_law_L_cell : GoodIn wsL_law wsL_cell := goodIn_r _ [62, 63] (by decide +kernel) (by decide +kernel)
set_option maxRecDepth 20000 in
theorem gL_law_L_cell : GoodIn wsL_law (va_wsS RL 9 yL_cell wsL_cell) := goodIn_app (goodIn_of _ (by decide +kernel)) ggL_law_L_cell
set_option maxRecDepth 20000 in
theorem ggL_law_L_below : GoodIn wsL_law wsL_below := goodIn_r _ [66, 67] (by decide +kernel) (by decide +kernel)
set_option maxRecDepth 20000 in
theorem gL_law_L_below : GoodIn wsL_law (va_wsS RL 15 yL_below wsL_below) := goodIn_app (goodIn_of _ (by decide +kernel)) ggL_law_L_below
set_option maxRecDepth 20000 in
theorem ggL_law_X3_join : GoodIn wsL_law wsX3_join := goodIn_ca (goodIn_r _ [151, 72, 73, 17, 119, 152, 137, 138, 139, 35, 140, 48, 77, 78, 7, 79, 153, 154, 155, 156, 55, 56, 157, 158, 159, 160, 161, 162, 163, 164, 361, 362, 363, 364, 365, 366, 367, 368, 369, 375, 376, 377, 378, 379, 380, 381, 382, 383] (by decide +kernel) (by decide +kernel)) (goodIn_sub (fun _ h => List.mem_append_left _ (List.mem_append_left _ (List.mem_append_right _ h))) (by decide +kernel))
set_option maxRecDepth 20000 in
theorem gL_law_X3_join : GoodIn wsL_law (wsV RL 61 RX3 yX3_join wsX3_join) := goodIn_app (goodIn_of _ (by decide +kernel)) ggL_law_X3_join
set_option maxRecDepth 20000 in
theorem ggL_law_X3_tow : GoodIn wsL_law wsX3_tow := goodIn_ca (goodIn_r _ [214, 72, 73, 17, 77, 78, 7, 79, 215, 216, 217, 16, 218, 27, 36, 28, 219, 162, 163, 35, 164, 48, 55, 361, 362, 363, 364, 365, 366, 367, 368, 369, 375, 376, 377, 378, 379, 380, 381, 382, 383] (by decide +kernel) (by decide +kernel)) (goodIn_sub (fun _ h => List.mem_append_left _ (List.mem_append_left _ (List.mem_append_right _ h))) (by decide +kernel))
set_option maxRecDepth 20000 in
theorem gL_law_X3_tow : GoodIn wsL_law (wsV RL 75 RX3 yX3_tow wsX3_tow) := goodIn_app (goodIn_of _ (by decide +kernel)) ggL_law_X3_tow
set_option maxRecDepth 20000 in
theorem ggL_law_X3_stands : GoodIn wsL_law wsX3_stands := goodIn_ca (goodIn_r _ [223, 72, 73, 17, 119, 77, 78, 7, 79, 224, 225, 226, 35, 227, 48, 55, 56, 361, 362, 363, 364, 365, 366, 367, 368, 369, 375, 376, 377, 378, 379, 380, 381, 382, 383] (by decide +kernel) (by decide +kernel)) (goodIn_sub (fun _ h => List.mem_append_left _ (List.mem_append_left _ (List.mem_append_right _ h))) (by decide +kernel))
set_option maxRecDepth 20000 in
theorem gL_law_X3_stands : GoodIn wsL_law (wsV RL 78 RX3 yX3_stands wsX3_stands) := goodIn_app (goodIn_of _ (by decide +kernel)) ggL_law_X3_stands
set_option maxRecDepth 20000 in
theorem ggL_law_X3_leave : GoodIn wsL_law wsX3_leave := goodIn_ca (goodIn_r _ [231, 72, 73, 17, 119, 232, 137, 138, 139, 35, 140, 48, 153, 154, 155, 156, 55, 56, 361, 362, 363, 364, 365, 366, 367, 368, 369, 375, 376, 377, 378, 379, 380, 381, 382, 383] (by decide +kernel) (by decide +kernel)) (goodIn_sub (fun _ h => List.mem_append_left _ (List.mem_append_left _ (List.mem_append_right _ h))) (by decide +kernel))
set_option maxRecDepth 20000 in
theorem gL_law_X3_leave : GoodIn wsL_law (wsV RL 81 RX3 yX3_leave wsX3_leave) := goodIn_app (goodIn_of _ (by decide +kernel)) ggL_law_X3_leave
set_option maxRecDepth 20000 in
theorem ggL_law_X3_wax : GoodIn wsL_law wsX3_wax := goodIn_ca (goodIn_ca (goodIn_ca (goodIn_r _ [134, 72, 73, 74, 75, 98, 99, 17, 119, 135, 136, 137, 138, 139, 35, 140, 48, 77, 78, 7, 79, 141, 142, 143, 144, 51, 52, 361, 362, 363, 364, 365, 366, 367, 368, 369, 375, 376, 377, 378, 379, 380, 381, 382, 383] (by decide +kernel) (by decide +kernel)) (goodIn_sub (fun _ h => List.mem_append_left _ (List.mem_append_left _ (List.mem_append_right _ h))) (by decide +kernel))) (goodIn_sub (fun _ h => List.mem_append_left _ (List.mem_append_right _ h)) (by decide +kernel))) (goodIn_sub (fun _ h => List.mem_append_right _ h) (by decide +kernel))
set_option maxRecDepth 20000 in
theorem gL_law_X3_wax : GoodIn wsL_law (wsV RL 55 RX3 yX3_wax wsX3_wax) := goodIn_app (goodIn_of _ (by decide +kernel)) ggL_law_X3_wax
set_option maxRecDepth 20000 in
theorem ggL_law_X3_digest : GoodIn wsL_law wsX3_digest := goodIn_r _ [236, 237, 17, 76, 100, 238, 119, 239, 169, 170, 171, 16, 172, 23, 24, 32, 173, 36, 174, 175, 176, 177, 178, 26, 179, 180, 181, 182, 183, 184, 185, 31, 186, 40, 187, 188, 189, 190, 43, 42, 191, 192, 193, 194, 28, 195, 196, 197, 35, 198, 48, 55, 199, 200, 201, 202, 53, 240, 241, 7, 242, 243, 244, 245, 246, 247, 41, 44, 207, 208, 209, 210, 49, 50, 52, 51, 54, 215, 216, 217, 218, 27, 219, 162, 163, 164, 248, 224, 225, 226, 227, 56, 361, 362, 363, 364, 365, 366, 367, 368, 369, 370, 371, 372, 373, 374, 375, 376, 377, 378, 379, 380, 381, 382, 383] (by decide +kernel) (by decide +kernel)
set_option maxRecDepth 20000 in
theorem gL_law_X3_digest : GoodIn wsL_law (wsV RL 85 RX3 yX3_digest wsX3_digest) := goodIn_app (goodIn_of _ (by decide +kernel)) ggL_law_X3_digest
set_option maxRecDepth 20000 in
theorem ggL_law_X3_foresee : GoodIn wsL_law wsX3_foresee := goodIn_ca (goodIn_ca (goodIn_r _ [252, 74, 75, 72, 73, 18, 17, 77, 78, 7, 79, 253, 254, 255, 16, 256, 23, 24, 26, 27, 28, 32, 36, 257, 258, 259, 260, 261, 262, 263, 264, 265, 266, 267, 268, 269, 31, 270, 40, 41, 42, 43, 44, 271, 272, 273, 35, 274, 48, 49, 50, 51, 52, 53, 54, 55, 56, 275, 276, 277, 278, 175, 176, 177, 178, 179, 180, 181, 182, 279, 280, 281, 282, 283, 284, 285, 286, 287, 288, 289, 290, 291, 292, 293, 294, 295, 296, 297, 298, 299, 219, 162, 163, 164, 300, 225, 226, 227, 301, 138, 139, 140, 302, 154, 155, 156, 303, 304, 305, 306, 307, 308, 309, 310, 311, 312, 313, 314, 315, 316, 317, 187, 188, 189, 190, 318, 319, 320, 321, 322, 323, 324, 325, 326, 327, 328, 329, 330, 331, 332, 333, 334, 158, 159, 160, 161, 169, 170, 171, 172, 173, 174, 183, 184, 185, 186, 191, 192, 193, 194, 195, 196, 197, 198, 199, 200, 201, 202, 361, 362, 363, 364, 365, 366, 367, 368, 369, 370, 371, 372, 373, 374, 375, 376, 377, 378, 379, 380, 381, 382, 383] (by decide +kernel) (by decide +kernel)) (goodIn_sub (fun _ h => List.mem_append_left _ (List.mem_append_right _ h)) (by decide +kernel))) (goodIn_sub (fun _ h => List.mem_append_left _ (List.mem_append_left _ (List.mem_append_right _ h))) (by decide +kernel))
set_option maxRecDepth 20000 in
theorem gL_law_X3_foresee : GoodIn wsL_law (wsV RL 89 RX3 yX3_foresee wsX3_foresee) := goodIn_app (goodIn_of _ (by decide +kernel)) ggL_law_X3_foresee
set_option maxRecDepth 20000 in
theorem ggL_law_X3_until : GoodIn wsL_law wsX3_until := goodIn_ca (goodIn_r _ [338, 72, 73, 17, 119, 18, 339, 137, 138, 139, 35, 140, 48, 253, 254, 255, 16, 256, 23, 24, 26, 27, 28, 32, 36, 257, 7, 258, 259, 260, 261, 262, 263, 264, 265, 266, 267, 268, 269, 31, 270, 40, 41, 42, 43, 44, 271, 272, 273, 274, 49, 50, 51, 52, 53, 54, 55, 56, 275, 276, 277, 278, 175, 176, 177, 178, 179, 180, 181, 182, 279, 280, 281, 282, 283, 284, 285, 286, 287, 288, 289, 290, 291, 292, 293, 294, 295, 296, 297, 298, 299, 219, 162, 163, 164, 300, 225, 226, 227, 301, 302, 154, 155, 156, 303, 304, 305, 306, 307, 308, 309, 310, 311, 312, 313, 314, 315, 316, 317, 187, 188, 189, 190, 318, 319, 320, 321, 322, 323, 324, 325, 326, 327, 328, 329, 330, 331, 332, 333, 334, 158, 159, 160, 161, 361, 362, 363, 364, 365, 366, 367, 368, 369, 375, 376, 377, 378, 379, 380, 381, 382, 383, 370, 371, 372, 373, 374] (by decide +kernel) (by decide +kernel)) (goodIn_sub (fun _ h => List.mem_append_left _ (List.mem_append_left _ (List.mem_append_right _ h))) (by decide +kernel))
set_option maxRecDepth 20000 in
theorem gL_law_X3_until : GoodIn wsL_law (wsV RL 92 RX3 yX3_until wsX3_until) := goodIn_app (goodIn_of _ (by decide +kernel)) ggL_law_X3_until
set_option maxRecDepth 20000 in
theorem ggL_law_X3_pass : GoodIn wsL_law wsX3_pass := goodIn_ca (goodIn_r _ [343, 74, 75, 17, 77, 78, 7, 79, 275, 276, 277, 16, 278, 32, 23, 175, 176, 177, 178, 26, 179, 180, 181, 182, 279, 280, 281, 282, 283, 31, 284, 40, 285, 286, 287, 288, 43, 289, 290, 259, 260, 261, 262, 291, 292, 293, 294, 295, 296, 297, 36, 27, 298, 24, 299, 28, 219, 162, 163, 35, 164, 48, 55, 300, 225, 226, 227, 56, 301, 138, 139, 140, 302, 154, 155, 156, 303, 304, 305, 306, 307, 308, 309, 310, 311, 312, 313, 314, 315, 316, 317, 41, 42, 187, 188, 189, 190, 318, 319, 320, 321, 322, 323, 324, 325, 52, 51, 326, 327, 328, 329, 330, 331, 332, 53, 333, 334, 158, 159, 160, 161, 361, 362, 363, 364, 365, 366, 367, 368, 369, 370, 371, 372, 373, 374, 375, 376, 377, 378, 379, 380, 381, 382, 383] (by decide +kernel) (by decide +kernel)) (goodIn_sub (fun _ h => List.mem_append_left _ (List.mem_append_right _ h)) (by decide +kernel))
set_option maxRecDepth 20000 in
theorem gL_law_X3_pass : GoodIn wsL_law (wsV RL 95 RX3 yX3_pass wsX3_pass) := goodIn_app (goodIn_of _ (by decide +kernel)) ggL_law_X3_pass
set_option maxRecDepth 20000 in
theorem ggL_law_X3_mean : GoodIn wsL_law wsX3_mean := goodIn_r _ [347, 17, 119, 239, 348, 200, 201, 35, 202, 48, 53, 361, 362, 363, 364, 365, 366, 367, 368, 369, 375, 376, 377, 378, 379, 380, 381, 382, 383] (by decide +kernel) (by decide +kernel)
set_option maxRecDepth 20000 in
theorem gL_law_X3_mean : GoodIn wsL_law (wsV RL 98 RX3 yX3_mean wsX3_mean) := goodIn_app (goodIn_of _ (by decide +kernel)) ggL_law_X3_mean
set_option maxRecDepth 20000 in
theorem ggL_law_L_skillOf : GoodIn wsL_law wsL_skillOf := goodIn_r _ [111, 60, 61, 3, 62, 63, 64, 65, 66, 67] (by decide +kernel) (by decide +kernel)
set_option maxRecDepth 20000 in
theorem gL_law_L_skillOf : GoodIn wsL_law (va_wsS RL 46 yL_skillOf wsL_skillOf) := goodIn_app (goodIn_of _ (by decide +kernel)) ggL_law_L_skillOf
set_option maxRecDepth 20000 in
theorem ggL_law_J6_bitCount_0f7a4 : GoodIn wsL_law wsJ6_bitCount_0f7a4 := goodIn_r _ [352, 353, 354, 355] (by decide +kernel) (by decide +kernel)
set_option maxRecDepth 20000 in
theorem gL_law_J6_bitCount_0f7a4 : GoodIn wsL_law (va_wsS RL 104 yJ6_bitCount_0f7a4 wsJ6_bitCount_0f7a4) := goodIn_app (goodIn_of _ (by decide +kernel)) ggL_law_J6_bitCount_0f7a4
set_option maxRecDepth 20000 in
theorem ggL_law_X3_about : GoodIn wsL_law wsX3_about := goodIn_ca (goodIn_r _ [359, 72, 73, 17, 100, 360, 319, 320, 31, 321, 40, 77, 78, 7, 79, 244, 245, 246, 247, 41, 42, 43, 44, 187, 188, 189, 190, 361, 362, 363, 364, 365, 366, 367, 368, 369, 370, 371, 372, 373, 374] (by decide +kernel) (by decide +kernel)) (goodIn_sub (fun _ h => List.mem_append_left _ (List.mem_append_left _ (List.mem_append_right _ h))) (by decide +kernel))
set_option maxRecDepth 20000 in
theorem gL_law_X3_about : GoodIn wsL_law (wsV RL 109 RX3 yX3_about wsX3_about) := goodIn_app (goodIn_of _ (by decide +kernel)) ggL_law_X3_about
theorem dL_law_0 : decode cL_law 0 = .ok (.aload_n 0, 1) := by decide +kernel
theorem dL_law_1 : decode cL_law 1 = .ok (.invokestatic 64, 3) := by decide +kernel
theorem dL_law_4 : decode cL_law 4 = .ok (.astore_n 1, 1) := by decide +kernel
theorem dL_law_5 : decode cL_law 5 = .ok (.aload_n 1, 1) := by decide +kernel
theorem dL_law_6 : decode cL_law 6 = .ok (.iconst 2, 1) := by decide +kernel
theorem dL_law_7 : decode cL_law 7 = .ok (.invokevirtual 68, 3) := by decide +kernel
theorem dL_law_10 : decode cL_law 10 = .ok (.istore_n 2, 1) := by decide +kernel
theorem dL_law_11 : decode cL_law 11 = .ok (.iconst 0, 1) := by decide +kernel
theorem dL_law_12 : decode cL_law 12 = .ok (.istore_n 3, 1) := by decide +kernel
theorem dL_law_13 : decode cL_law 13 = .ok (.iload_n 3, 1) := by decide +kernel
theorem dL_law_14 : decode cL_law 14 = .ok (.iconst 5, 1) := by decide +kernel
theorem dL_law_15 : decode cL_law 15 = .ok (.if_icmp .ge 18, 3) := by decide +kernel
theorem dL_law_18 : decode cL_law 18 = .ok (.iload_n 2, 1) := by decide +kernel
theorem dL_law_19 : decode cL_law 19 = .ok (.aload_n 1, 1) := by decide +kernel
theorem dL_law_20 : decode cL_law 20 = .ok (.iload_n 3, 1) := by decide +kernel
theorem dL_law_21 : decode cL_law 21 = .ok (.iconst 1, 1) := by decide +kernel
theorem dL_law_22 : decode cL_law 22 = .ok (.invokevirtual 72, 3) := by decide +kernel
theorem dL_law_25 : decode cL_law 25 = .ok (.iadd, 1) := by decide +kernel
theorem dL_law_26 : decode cL_law 26 = .ok (.istore_n 2, 1) := by decide +kernel
theorem dL_law_27 : decode cL_law 27 = .ok (.iinc 3 1, 3) := by decide +kernel
theorem dL_law_30 : decode cL_law 30 = .ok (.goto (-17), 3) := by decide +kernel
theorem dL_law_33 : decode cL_law 33 = .ok (.iconst 0, 1) := by decide +kernel
theorem dL_law_34 : decode cL_law 34 = .ok (.istore_n 3, 1) := by decide +kernel
theorem dL_law_35 : decode cL_law 35 = .ok (.iload_n 3, 1) := by decide +kernel
theorem dL_law_36 : decode cL_law 36 = .ok (.bipush 30, 2) := by decide +kernel
theorem dL_law_38 : decode cL_law 38 = .ok (.if_icmp .ge 780, 3) := by decide +kernel
theorem dL_law_41 : decode cL_law 41 = .ok (.aload_n 0, 1) := by decide +kernel
theorem dL_law_42 : decode cL_law 42 = .ok (.iload_n 3, 1) := by decide +kernel
theorem dL_law_43 : decode cL_law 43 = .ok (.bipush 16, 2) := by decide +kernel
theorem dL_law_45 : decode cL_law 45 = .ok (.irem, 1) := by decide +kernel
theorem dL_law_46 : decode cL_law 46 = .ok (.invokestatic 9, 3) := by decide +kernel
theorem dL_law_49 : decode cL_law 49 = .ok (.iload_n 3, 1) := by decide +kernel
theorem dL_law_50 : decode cL_law 50 = .ok (.bipush 16, 2) := by decide +kernel
theorem dL_law_52 : decode cL_law 52 = .ok (.idiv, 1) := by decide +kernel
theorem dL_law_53 : decode cL_law 53 = .ok (.iconst 4, 1) := by decide +kernel
theorem dL_law_54 : decode cL_law 54 = .ok (.imul, 1) := by decide +kernel
theorem dL_law_55 : decode cL_law 55 = .ok (.ishr, 1) := by decide +kernel
theorem dL_law_56 : decode cL_law 56 = .ok (.istore 4, 2) := by decide +kernel
theorem dL_law_58 : decode cL_law 58 = .ok (.iload 4, 2) := by decide +kernel
theorem dL_law_60 : decode cL_law 60 = .ok (.iconst 2, 1) := by decide +kernel
theorem dL_law_61 : decode cL_law 61 = .ok (.ishr, 1) := by decide +kernel
theorem dL_law_62 : decode cL_law 62 = .ok (.iconst 5, 1) := by decide +kernel
theorem dL_law_63 : decode cL_law 63 = .ok (.invokestatic 15, 3) := by decide +kernel
theorem dL_law_66 : decode cL_law 66 = .ok (.istore 5, 2) := by decide +kernel
theorem dL_law_68 : decode cL_law 68 = .ok (.iload 4, 2) := by decide +kernel
theorem dL_law_70 : decode cL_law 70 = .ok (.iconst 5, 1) := by decide +kernel
theorem dL_law_71 : decode cL_law 71 = .ok (.ishr, 1) := by decide +kernel
theorem dL_law_72 : decode cL_law 72 = .ok (.iconst 3, 1) := by decide +kernel
theorem dL_law_73 : decode cL_law 73 = .ok (.invokestatic 15, 3) := by decide +kernel
theorem dL_law_76 : decode cL_law 76 = .ok (.istore 6, 2) := by decide +kernel
theorem dL_law_78 : decode cL_law 78 = .ok (.aload_n 1, 1) := by decide +kernel
theorem dL_law_79 : decode cL_law 79 = .ok (.iload 5, 2) := by decide +kernel
theorem dL_law_81 : decode cL_law 81 = .ok (.iconst 4, 1) := by decide +kernel
theorem dL_law_82 : decode cL_law 82 = .ok (.invokevirtual 72, 3) := by decide +kernel
theorem dL_law_85 : decode cL_law 85 = .ok (.istore 7, 2) := by decide +kernel
theorem dL_law_87 : decode cL_law 87 = .ok (.iload 4, 2) := by decide +kernel
theorem dL_law_89 : decode cL_law 89 = .ok (.bipush 6, 2) := by decide +kernel
theorem dL_law_91 : decode cL_law 91 = .ok (.invokestatic 15, 3) := by decide +kernel
theorem dL_law_94 : decode cL_law 94 = .ok (.tableswitch 158 0 2 #[26, 81, 110], 26) := by decide +kernel
theorem dL_law_120 : decode cL_law 120 = .ok (.aload_n 1, 1) := by decide +kernel
theorem dL_law_121 : decode cL_law 121 = .ok (.iload 5, 2) := by decide +kernel
theorem dL_law_123 : decode cL_law 123 = .ok (.iload 6, 2) := by decide +kernel
theorem dL_law_125 : decode cL_law 125 = .ok (.invokevirtual 61, 3) := by decide +kernel
theorem dL_law_128 : decode cL_law 128 = .ok (.aload_n 1, 1) := by decide +kernel
theorem dL_law_129 : decode cL_law 129 = .ok (.iload 6, 2) := by decide +kernel
theorem dL_law_131 : decode cL_law 131 = .ok (.iconst 1, 1) := by decide +kernel
theorem dL_law_132 : decode cL_law 132 = .ok (.invokevirtual 75, 3) := by decide +kernel
theorem dL_law_135 : decode cL_law 135 = .ok (.iconst 1, 1) := by decide +kernel
theorem dL_law_136 : decode cL_law 136 = .ok (.isub, 1) := by decide +kernel
theorem dL_law_137 : decode cL_law 137 = .ok (.if_icmp .ne 36, 3) := by decide +kernel
theorem dL_law_140 : decode cL_law 140 = .ok (.aload_n 1, 1) := by decide +kernel
theorem dL_law_141 : decode cL_law 141 = .ok (.iload 6, 2) := by decide +kernel
theorem dL_law_143 : decode cL_law 143 = .ok (.aload_n 1, 1) := by decide +kernel
theorem dL_law_144 : decode cL_law 144 = .ok (.iload 6, 2) := by decide +kernel
theorem dL_law_146 : decode cL_law 146 = .ok (.iconst 1, 1) := by decide +kernel
theorem dL_law_147 : decode cL_law 147 = .ok (.invokevirtual 75, 3) := by decide +kernel
theorem dL_law_150 : decode cL_law 150 = .ok (.iconst 1, 1) := by decide +kernel
theorem dL_law_151 : decode cL_law 151 = .ok (.isub, 1) := by decide +kernel
theorem dL_law_152 : decode cL_law 152 = .ok (.invokevirtual 78, 3) := by decide +kernel
theorem dL_law_155 : decode cL_law 155 = .ok (.iload 5, 2) := by decide +kernel
theorem dL_law_157 : decode cL_law 157 = .ok (.if_icmp .ne 16, 3) := by decide +kernel
theorem dL_law_160 : decode cL_law 160 = .ok (.aload_n 1, 1) := by decide +kernel
theorem dL_law_161 : decode cL_law 161 = .ok (.iload 5, 2) := by decide +kernel
theorem dL_law_163 : decode cL_law 163 = .ok (.bipush 6, 2) := by decide +kernel
theorem dL_law_165 : decode cL_law 165 = .ok (.invokevirtual 72, 3) := by decide +kernel
theorem dL_law_168 : decode cL_law 168 = .ok (.iload 6, 2) := by decide +kernel
theorem dL_law_170 : decode cL_law 170 = .ok (.if_icmp .eq 186, 3) := by decide +kernel
theorem dL_law_173 : decode cL_law 173 = .ok (.iconst 0, 1) := by decide +kernel
theorem dL_law_174 : decode cL_law 174 = .ok (.ireturn, 1) := by decide +kernel
theorem dL_law_175 : decode cL_law 175 = .ok (.aload_n 1, 1) := by decide +kernel
theorem dL_law_176 : decode cL_law 176 = .ok (.iload 5, 2) := by decide +kernel
theorem dL_law_178 : decode cL_law 178 = .ok (.invokevirtual 81, 3) := by decide +kernel
theorem dL_law_181 : decode cL_law 181 = .ok (.aload_n 1, 1) := by decide +kernel
theorem dL_law_182 : decode cL_law 182 = .ok (.iload 5, 2) := by decide +kernel
theorem dL_law_184 : decode cL_law 184 = .ok (.invokevirtual 81, 3) := by decide +kernel
theorem dL_law_187 : decode cL_law 187 = .ok (.if_icmp .eq 169, 3) := by decide +kernel
theorem dL_law_190 : decode cL_law 190 = .ok (.aload_n 1, 1) := by decide +kernel
theorem dL_law_191 : decode cL_law 191 = .ok (.iload 5, 2) := by decide +kernel
theorem dL_law_193 : decode cL_law 193 = .ok (.bipush 6, 2) := by decide +kernel
theorem dL_law_195 : decode cL_law 195 = .ok (.invokevirtual 72, 3) := by decide +kernel
theorem dL_law_198 : decode cL_law 198 = .ok (.iconst (-1), 1) := by decide +kernel
theorem dL_law_199 : decode cL_law 199 = .ok (.if_icmp .eq 157, 3) := by decide +kernel
theorem dL_law_202 : decode cL_law 202 = .ok (.iconst 0, 1) := by decide +kernel
theorem dL_law_203 : decode cL_law 203 = .ok (.ireturn, 1) := by decide +kernel
theorem dL_law_204 : decode cL_law 204 = .ok (.aload_n 1, 1) := by decide +kernel
theorem dL_law_205 : decode cL_law 205 = .ok (.iload 5, 2) := by decide +kernel
theorem dL_law_207 : decode cL_law 207 = .ok (.iconst 1, 1) := by decide +kernel
theorem dL_law_208 : decode cL_law 208 = .ok (.invokevirtual 72, 3) := by decide +kernel
theorem dL_law_211 : decode cL_law 211 = .ok (.iconst 1, 1) := by decide +kernel
theorem dL_law_212 : decode cL_law 212 = .ok (.if_icmp .le 144, 3) := by decide +kernel
theorem dL_law_215 : decode cL_law 215 = .ok (.aload_n 1, 1) := by decide +kernel
theorem dL_law_216 : decode cL_law 216 = .ok (.iload 5, 2) := by decide +kernel
theorem dL_law_218 : decode cL_law 218 = .ok (.iload 6, 2) := by decide +kernel
theorem dL_law_220 : decode cL_law 220 = .ok (.invokevirtual 55, 3) := by decide +kernel
theorem dL_law_223 : decode cL_law 223 = .ok (.ifCond .lt 27, 3) := by decide +kernel
theorem dL_law_226 : decode cL_law 226 = .ok (.aload_n 1, 1) := by decide +kernel
theorem dL_law_227 : decode cL_law 227 = .ok (.iload 5, 2) := by decide +kernel
theorem dL_law_229 : decode cL_law 229 = .ok (.iconst 2, 1) := by decide +kernel
theorem dL_law_230 : decode cL_law 230 = .ok (.invokevirtual 72, 3) := by decide +kernel
theorem dL_law_233 : decode cL_law 233 = .ok (.iload 6, 2) := by decide +kernel
theorem dL_law_235 : decode cL_law 235 = .ok (.if_icmp .ne 15, 3) := by decide +kernel
theorem dL_law_238 : decode cL_law 238 = .ok (.aload_n 1, 1) := by decide +kernel
theorem dL_law_239 : decode cL_law 239 = .ok (.iload 5, 2) := by decide +kernel
theorem dL_law_241 : decode cL_law 241 = .ok (.iconst 3, 1) := by decide +kernel
theorem dL_law_242 : decode cL_law 242 = .ok (.invokevirtual 72, 3) := by decide +kernel
theorem dL_law_245 : decode cL_law 245 = .ok (.bipush 10, 2) := by decide +kernel
theorem dL_law_247 : decode cL_law 247 = .ok (.if_icmp .eq 109, 3) := by decide +kernel
theorem dL_law_250 : decode cL_law 250 = .ok (.iconst 0, 1) := by decide +kernel
theorem dL_law_251 : decode cL_law 251 = .ok (.ireturn, 1) := by decide +kernel
theorem dL_law_252 : decode cL_law 252 = .ok (.aload_n 1, 1) := by decide +kernel
theorem dL_law_253 : decode cL_law 253 = .ok (.bipush 6, 2) := by decide +kernel
theorem dL_law_255 : decode cL_law 255 = .ok (.invokevirtual 68, 3) := by decide +kernel
theorem dL_law_258 : decode cL_law 258 = .ok (.istore 8, 2) := by decide +kernel
theorem dL_law_260 : decode cL_law 260 = .ok (.aload_n 1, 1) := by decide +kernel
theorem dL_law_261 : decode cL_law 261 = .ok (.invokevirtual 85, 3) := by decide +kernel
theorem dL_law_264 : decode cL_law 264 = .ok (.lstore 9, 2) := by decide +kernel
theorem dL_law_266 : decode cL_law 266 = .ok (.aload_n 1, 1) := by decide +kernel
theorem dL_law_267 : decode cL_law 267 = .ok (.iconst 2, 1) := by decide +kernel
theorem dL_law_268 : decode cL_law 268 = .ok (.bipush 6, 2) := by decide +kernel
theorem dL_law_270 : decode cL_law 270 = .ok (.invokevirtual 89, 3) := by decide +kernel
theorem dL_law_273 : decode cL_law 273 = .ok (.istore 11, 2) := by decide +kernel
theorem dL_law_275 : decode cL_law 275 = .ok (.aload_n 1, 1) := by decide +kernel
theorem dL_law_276 : decode cL_law 276 = .ok (.iconst 2, 1) := by decide +kernel
theorem dL_law_277 : decode cL_law 277 = .ok (.bipush 8, 2) := by decide +kernel
theorem dL_law_279 : decode cL_law 279 = .ok (.invokevirtual 89, 3) := by decide +kernel
theorem dL_law_282 : decode cL_law 282 = .ok (.istore 12, 2) := by decide +kernel
theorem dL_law_284 : decode cL_law 284 = .ok (.aload_n 1, 1) := by decide +kernel
theorem dL_law_285 : decode cL_law 285 = .ok (.iload 5, 2) := by decide +kernel
theorem dL_law_287 : decode cL_law 287 = .ok (.invokevirtual 92, 3) := by decide +kernel
theorem dL_law_290 : decode cL_law 290 = .ok (.istore 13, 2) := by decide +kernel
theorem dL_law_292 : decode cL_law 292 = .ok (.aload_n 1, 1) := by decide +kernel
theorem dL_law_293 : decode cL_law 293 = .ok (.invokevirtual 85, 3) := by decide +kernel
theorem dL_law_296 : decode cL_law 296 = .ok (.lload 9, 2) := by decide +kernel
theorem dL_law_298 : decode cL_law 298 = .ok (.lcmp, 1) := by decide +kernel
theorem dL_law_299 : decode cL_law 299 = .ok (.ifCond .ne 55, 3) := by decide +kernel
theorem dL_law_302 : decode cL_law 302 = .ok (.iload 13, 2) := by decide +kernel
theorem dL_law_304 : decode cL_law 304 = .ok (.ifCond .eq 50, 3) := by decide +kernel
theorem dL_law_307 : decode cL_law 307 = .ok (.iload 13, 2) := by decide +kernel
theorem dL_law_309 : decode cL_law 309 = .ok (.bipush 90, 2) := by decide +kernel
theorem dL_law_311 : decode cL_law 311 = .ok (.if_icmp .gt 43, 3) := by decide +kernel
theorem dL_law_314 : decode cL_law 314 = .ok (.aload_n 1, 1) := by decide +kernel
theorem dL_law_315 : decode cL_law 315 = .ok (.iload 5, 2) := by decide +kernel
theorem dL_law_317 : decode cL_law 317 = .ok (.bipush 6, 2) := by decide +kernel
theorem dL_law_319 : decode cL_law 319 = .ok (.invokevirtual 72, 3) := by decide +kernel
theorem dL_law_322 : decode cL_law 322 = .ok (.ifCond .ge 8, 3) := by decide +kernel
theorem dL_law_325 : decode cL_law 325 = .ok (.iload 13, 2) := by decide +kernel
theorem dL_law_327 : decode cL_law 327 = .ok (.ifCond .ge 27, 3) := by decide +kernel
theorem dL_law_330 : decode cL_law 330 = .ok (.aload_n 1, 1) := by decide +kernel
theorem dL_law_331 : decode cL_law 331 = .ok (.iconst 2, 1) := by decide +kernel
theorem dL_law_332 : decode cL_law 332 = .ok (.invokevirtual 95, 3) := by decide +kernel
theorem dL_law_335 : decode cL_law 335 = .ok (.iload 11, 2) := by decide +kernel
theorem dL_law_337 : decode cL_law 337 = .ok (.iload 8, 2) := by decide +kernel
theorem dL_law_339 : decode cL_law 339 = .ok (.isub, 1) := by decide +kernel
theorem dL_law_340 : decode cL_law 340 = .ok (.if_icmp .ne 14, 3) := by decide +kernel
theorem dL_law_343 : decode cL_law 343 = .ok (.aload_n 1, 1) := by decide +kernel
theorem dL_law_344 : decode cL_law 344 = .ok (.bipush 8, 2) := by decide +kernel
theorem dL_law_346 : decode cL_law 346 = .ok (.invokevirtual 68, 3) := by decide +kernel
theorem dL_law_349 : decode cL_law 349 = .ok (.iload 12, 2) := by decide +kernel
theorem dL_law_351 : decode cL_law 351 = .ok (.if_icmp .eq 5, 3) := by decide +kernel
theorem dL_law_354 : decode cL_law 354 = .ok (.iconst 0, 1) := by decide +kernel
theorem dL_law_355 : decode cL_law 355 = .ok (.ireturn, 1) := by decide +kernel
theorem dL_law_356 : decode cL_law 356 = .ok (.aload_n 1, 1) := by decide +kernel
theorem dL_law_357 : decode cL_law 357 = .ok (.iconst 2, 1) := by decide +kernel
theorem dL_law_358 : decode cL_law 358 = .ok (.invokevirtual 68, 3) := by decide +kernel
theorem dL_law_361 : decode cL_law 361 = .ok (.istore 8, 2) := by decide +kernel
theorem dL_law_363 : decode cL_law 363 = .ok (.iconst 0, 1) := by decide +kernel
theorem dL_law_364 : decode cL_law 364 = .ok (.istore 9, 2) := by decide +kernel
theorem dL_law_366 : decode cL_law 366 = .ok (.iconst 0, 1) := by decide +kernel
theorem dL_law_367 : decode cL_law 367 = .ok (.istore 10, 2) := by decide +kernel
theorem dL_law_369 : decode cL_law 369 = .ok (.iconst 0, 1) := by decide +kernel
theorem dL_law_370 : decode cL_law 370 = .ok (.istore 11, 2) := by decide +kernel
theorem dL_law_372 : decode cL_law 372 = .ok (.iconst 0, 1) := by decide +kernel
theorem dL_law_373 : decode cL_law 373 = .ok (.istore 12, 2) := by decide +kernel
theorem dL_law_375 : decode cL_law 375 = .ok (.iload 12, 2) := by decide +kernel
theorem dL_law_377 : decode cL_law 377 = .ok (.iconst 5, 1) := by decide +kernel
theorem dL_law_378 : decode cL_law 378 = .ok (.if_icmp .ge 156, 3) := by decide +kernel
theorem dL_law_381 : decode cL_law 381 = .ok (.iload 8, 2) := by decide +kernel
theorem dL_law_383 : decode cL_law 383 = .ok (.aload_n 1, 1) := by decide +kernel
theorem dL_law_384 : decode cL_law 384 = .ok (.iload 12, 2) := by decide +kernel
theorem dL_law_386 : decode cL_law 386 = .ok (.iconst 1, 1) := by decide +kernel
theorem dL_law_387 : decode cL_law 387 = .ok (.invokevirtual 72, 3) := by decide +kernel
theorem dL_law_390 : decode cL_law 390 = .ok (.iadd, 1) := by decide +kernel
theorem dL_law_391 : decode cL_law 391 = .ok (.istore 8, 2) := by decide +kernel
theorem dL_law_393 : decode cL_law 393 = .ok (.iload 9, 2) := by decide +kernel
theorem dL_law_395 : decode cL_law 395 = .ok (.aload_n 1, 1) := by decide +kernel
theorem dL_law_396 : decode cL_law 396 = .ok (.iload 12, 2) := by decide +kernel
theorem dL_law_398 : decode cL_law 398 = .ok (.iconst 5, 1) := by decide +kernel
theorem dL_law_399 : decode cL_law 399 = .ok (.invokevirtual 72, 3) := by decide +kernel
theorem dL_law_402 : decode cL_law 402 = .ok (.iadd, 1) := by decide +kernel
theorem dL_law_403 : decode cL_law 403 = .ok (.istore 9, 2) := by decide +kernel
theorem dL_law_405 : decode cL_law 405 = .ok (.iload 10, 2) := by decide +kernel
theorem dL_law_407 : decode cL_law 407 = .ok (.aload_n 1, 1) := by decide +kernel
theorem dL_law_408 : decode cL_law 408 = .ok (.iload 12, 2) := by decide +kernel
theorem dL_law_410 : decode cL_law 410 = .ok (.iconst 4, 1) := by decide +kernel
theorem dL_law_411 : decode cL_law 411 = .ok (.invokevirtual 72, 3) := by decide +kernel
theorem dL_law_414 : decode cL_law 414 = .ok (.iadd, 1) := by decide +kernel
theorem dL_law_415 : decode cL_law 415 = .ok (.istore 10, 2) := by decide +kernel
theorem dL_law_417 : decode cL_law 417 = .ok (.iload 11, 2) := by decide +kernel
theorem dL_law_419 : decode cL_law 419 = .ok (.aload_n 1, 1) := by decide +kernel
theorem dL_law_420 : decode cL_law 420 = .ok (.iload 12, 2) := by decide +kernel
theorem dL_law_422 : decode cL_law 422 = .ok (.bipush 6, 2) := by decide +kernel
theorem dL_law_424 : decode cL_law 424 = .ok (.invokevirtual 72, 3) := by decide +kernel
theorem dL_law_427 : decode cL_law 427 = .ok (.ifCond .ge 7, 3) := by decide +kernel
theorem dL_law_430 : decode cL_law 430 = .ok (.iconst 0, 1) := by decide +kernel
theorem dL_law_431 : decode cL_law 431 = .ok (.goto 4, 3) := by decide +kernel
theorem dL_law_434 : decode cL_law 434 = .ok (.iconst 1, 1) := by decide +kernel
theorem dL_law_435 : decode cL_law 435 = .ok (.iadd, 1) := by decide +kernel
theorem dL_law_436 : decode cL_law 436 = .ok (.istore 11, 2) := by decide +kernel
theorem dL_law_438 : decode cL_law 438 = .ok (.aload_n 1, 1) := by decide +kernel
theorem dL_law_439 : decode cL_law 439 = .ok (.iload 12, 2) := by decide +kernel
theorem dL_law_441 : decode cL_law 441 = .ok (.iconst 1, 1) := by decide +kernel
theorem dL_law_442 : decode cL_law 442 = .ok (.invokevirtual 72, 3) := by decide +kernel
theorem dL_law_445 : decode cL_law 445 = .ok (.ifCond .lt 81, 3) := by decide +kernel
theorem dL_law_448 : decode cL_law 448 = .ok (.aload_n 1, 1) := by decide +kernel
theorem dL_law_449 : decode cL_law 449 = .ok (.iload 12, 2) := by decide +kernel
theorem dL_law_451 : decode cL_law 451 = .ok (.iconst 4, 1) := by decide +kernel
theorem dL_law_452 : decode cL_law 452 = .ok (.invokevirtual 72, 3) := by decide +kernel
theorem dL_law_455 : decode cL_law 455 = .ok (.ifCond .lt 71, 3) := by decide +kernel
theorem dL_law_458 : decode cL_law 458 = .ok (.aload_n 1, 1) := by decide +kernel
theorem dL_law_459 : decode cL_law 459 = .ok (.iload 12, 2) := by decide +kernel
theorem dL_law_461 : decode cL_law 461 = .ok (.iconst 4, 1) := by decide +kernel
theorem dL_law_462 : decode cL_law 462 = .ok (.invokevirtual 72, 3) := by decide +kernel
theorem dL_law_465 : decode cL_law 465 = .ok (.sipush 999, 3) := by decide +kernel
theorem dL_law_468 : decode cL_law 468 = .ok (.if_icmp .gt 58, 3) := by decide +kernel
theorem dL_law_471 : decode cL_law 471 = .ok (.aload_n 1, 1) := by decide +kernel
theorem dL_law_472 : decode cL_law 472 = .ok (.iload 12, 2) := by decide +kernel
theorem dL_law_474 : decode cL_law 474 = .ok (.iconst 3, 1) := by decide +kernel
theorem dL_law_475 : decode cL_law 475 = .ok (.invokevirtual 72, 3) := by decide +kernel
theorem dL_law_478 : decode cL_law 478 = .ok (.ifCond .lt 48, 3) := by decide +kernel
theorem dL_law_481 : decode cL_law 481 = .ok (.aload_n 1, 1) := by decide +kernel
theorem dL_law_482 : decode cL_law 482 = .ok (.iload 12, 2) := by decide +kernel
theorem dL_law_484 : decode cL_law 484 = .ok (.iconst 3, 1) := by decide +kernel
theorem dL_law_485 : decode cL_law 485 = .ok (.invokevirtual 72, 3) := by decide +kernel
theorem dL_law_488 : decode cL_law 488 = .ok (.bipush 10, 2) := by decide +kernel
theorem dL_law_490 : decode cL_law 490 = .ok (.if_icmp .gt 36, 3) := by decide +kernel
theorem dL_law_493 : decode cL_law 493 = .ok (.aload_n 1, 1) := by decide +kernel
theorem dL_law_494 : decode cL_law 494 = .ok (.iload 12, 2) := by decide +kernel
theorem dL_law_496 : decode cL_law 496 = .ok (.iconst 3, 1) := by decide +kernel
theorem dL_law_497 : decode cL_law 497 = .ok (.invokevirtual 72, 3) := by decide +kernel
theorem dL_law_500 : decode cL_law 500 = .ok (.ifCond .ne 7, 3) := by decide +kernel
theorem dL_law_503 : decode cL_law 503 = .ok (.iconst 1, 1) := by decide +kernel
theorem dL_law_504 : decode cL_law 504 = .ok (.goto 4, 3) := by decide +kernel
theorem dL_law_507 : decode cL_law 507 = .ok (.iconst 0, 1) := by decide +kernel
theorem dL_law_508 : decode cL_law 508 = .ok (.aload_n 1, 1) := by decide +kernel
theorem dL_law_509 : decode cL_law 509 = .ok (.iload 12, 2) := by decide +kernel
theorem dL_law_511 : decode cL_law 511 = .ok (.iconst 2, 1) := by decide +kernel
theorem dL_law_512 : decode cL_law 512 = .ok (.invokevirtual 72, 3) := by decide +kernel
theorem dL_law_515 : decode cL_law 515 = .ok (.ifCond .ge 7, 3) := by decide +kernel
theorem dL_law_518 : decode cL_law 518 = .ok (.iconst 1, 1) := by decide +kernel
theorem dL_law_519 : decode cL_law 519 = .ok (.goto 4, 3) := by decide +kernel
theorem dL_law_522 : decode cL_law 522 = .ok (.iconst 0, 1) := by decide +kernel
theorem dL_law_523 : decode cL_law 523 = .ok (.if_icmp .eq 5, 3) := by decide +kernel
theorem dL_law_526 : decode cL_law 526 = .ok (.iconst 0, 1) := by decide +kernel
theorem dL_law_527 : decode cL_law 527 = .ok (.ireturn, 1) := by decide +kernel
theorem dL_law_528 : decode cL_law 528 = .ok (.iinc 12 1, 3) := by decide +kernel
theorem dL_law_531 : decode cL_law 531 = .ok (.goto (-156), 3) := by decide +kernel
theorem dL_law_534 : decode cL_law 534 = .ok (.aload_n 1, 1) := by decide +kernel
theorem dL_law_535 : decode cL_law 535 = .ok (.iconst 0, 1) := by decide +kernel
theorem dL_law_536 : decode cL_law 536 = .ok (.iconst 2, 1) := by decide +kernel
theorem dL_law_537 : decode cL_law 537 = .ok (.invokevirtual 75, 3) := by decide +kernel
theorem dL_law_540 : decode cL_law 540 = .ok (.aload_n 1, 1) := by decide +kernel
theorem dL_law_541 : decode cL_law 541 = .ok (.iconst 1, 1) := by decide +kernel
theorem dL_law_542 : decode cL_law 542 = .ok (.iconst 2, 1) := by decide +kernel
theorem dL_law_543 : decode cL_law 543 = .ok (.invokevirtual 75, 3) := by decide +kernel
theorem dL_law_546 : decode cL_law 546 = .ok (.iadd, 1) := by decide +kernel
theorem dL_law_547 : decode cL_law 547 = .ok (.aload_n 1, 1) := by decide +kernel
theorem dL_law_548 : decode cL_law 548 = .ok (.iconst 2, 1) := by decide +kernel
theorem dL_law_549 : decode cL_law 549 = .ok (.iconst 2, 1) := by decide +kernel
theorem dL_law_550 : decode cL_law 550 = .ok (.invokevirtual 75, 3) := by decide +kernel
theorem dL_law_553 : decode cL_law 553 = .ok (.iadd, 1) := by decide +kernel
theorem dL_law_554 : decode cL_law 554 = .ok (.istore 12, 2) := by decide +kernel
theorem dL_law_556 : decode cL_law 556 = .ok (.iload 8, 2) := by decide +kernel
theorem dL_law_558 : decode cL_law 558 = .ok (.iload_n 2, 1) := by decide +kernel
theorem dL_law_559 : decode cL_law 559 = .ok (.if_icmp .ne 122, 3) := by decide +kernel
theorem dL_law_562 : decode cL_law 562 = .ok (.iload 9, 2) := by decide +kernel
theorem dL_law_564 : decode cL_law 564 = .ok (.aload_n 1, 1) := by decide +kernel
theorem dL_law_565 : decode cL_law 565 = .ok (.bipush 6, 2) := by decide +kernel
theorem dL_law_567 : decode cL_law 567 = .ok (.invokevirtual 68, 3) := by decide +kernel
theorem dL_law_570 : decode cL_law 570 = .ok (.if_icmp .ne 111, 3) := by decide +kernel
theorem dL_law_573 : decode cL_law 573 = .ok (.iload 12, 2) := by decide +kernel
theorem dL_law_575 : decode cL_law 575 = .ok (.iload 9, 2) := by decide +kernel
theorem dL_law_577 : decode cL_law 577 = .ok (.if_icmp .ne 104, 3) := by decide +kernel
theorem dL_law_580 : decode cL_law 580 = .ok (.iload 10, 2) := by decide +kernel
theorem dL_law_582 : decode cL_law 582 = .ok (.aload_n 1, 1) := by decide +kernel
theorem dL_law_583 : decode cL_law 583 = .ok (.bipush 8, 2) := by decide +kernel
theorem dL_law_585 : decode cL_law 585 = .ok (.invokevirtual 68, 3) := by decide +kernel
theorem dL_law_588 : decode cL_law 588 = .ok (.if_icmp .ne 93, 3) := by decide +kernel
theorem dL_law_591 : decode cL_law 591 = .ok (.iload 11, 2) := by decide +kernel
theorem dL_law_593 : decode cL_law 593 = .ok (.aload_n 1, 1) := by decide +kernel
theorem dL_law_594 : decode cL_law 594 = .ok (.bipush 7, 2) := by decide +kernel
theorem dL_law_596 : decode cL_law 596 = .ok (.invokevirtual 68, 3) := by decide +kernel
theorem dL_law_599 : decode cL_law 599 = .ok (.if_icmp .ne 82, 3) := by decide +kernel
theorem dL_law_602 : decode cL_law 602 = .ok (.aload_n 1, 1) := by decide +kernel
theorem dL_law_603 : decode cL_law 603 = .ok (.iconst 0, 1) := by decide +kernel
theorem dL_law_604 : decode cL_law 604 = .ok (.iconst 1, 1) := by decide +kernel
theorem dL_law_605 : decode cL_law 605 = .ok (.invokevirtual 75, 3) := by decide +kernel
theorem dL_law_608 : decode cL_law 608 = .ok (.aload_n 1, 1) := by decide +kernel
theorem dL_law_609 : decode cL_law 609 = .ok (.iconst 1, 1) := by decide +kernel
theorem dL_law_610 : decode cL_law 610 = .ok (.iconst 1, 1) := by decide +kernel
theorem dL_law_611 : decode cL_law 611 = .ok (.invokevirtual 75, 3) := by decide +kernel
theorem dL_law_614 : decode cL_law 614 = .ok (.iadd, 1) := by decide +kernel
theorem dL_law_615 : decode cL_law 615 = .ok (.aload_n 1, 1) := by decide +kernel
theorem dL_law_616 : decode cL_law 616 = .ok (.iconst 2, 1) := by decide +kernel
theorem dL_law_617 : decode cL_law 617 = .ok (.iconst 1, 1) := by decide +kernel
theorem dL_law_618 : decode cL_law 618 = .ok (.invokevirtual 75, 3) := by decide +kernel
theorem dL_law_621 : decode cL_law 621 = .ok (.iadd, 1) := by decide +kernel
theorem dL_law_622 : decode cL_law 622 = .ok (.iload 11, 2) := by decide +kernel
theorem dL_law_624 : decode cL_law 624 = .ok (.if_icmp .ne 57, 3) := by decide +kernel
theorem dL_law_627 : decode cL_law 627 = .ok (.aload_n 1, 1) := by decide +kernel
theorem dL_law_628 : decode cL_law 628 = .ok (.invokevirtual 98, 3) := by decide +kernel
theorem dL_law_631 : decode cL_law 631 = .ok (.iload 10, 2) := by decide +kernel
theorem dL_law_633 : decode cL_law 633 = .ok (.i2d, 1) := by decide +kernel
theorem dL_law_634 : decode cL_law 634 = .ok (.ldc2_w 102, 3) := by decide +kernel
theorem dL_law_637 : decode cL_law 637 = .ok (.ddiv, 1) := by decide +kernel
theorem dL_law_638 : decode cL_law 638 = .ok (.dcmp .l, 1) := by decide +kernel
theorem dL_law_639 : decode cL_law 639 = .ok (.ifCond .ne 42, 3) := by decide +kernel
theorem dL_law_642 : decode cL_law 642 = .ok (.aload_n 1, 1) := by decide +kernel
theorem dL_law_643 : decode cL_law 643 = .ok (.iload 5, 2) := by decide +kernel
theorem dL_law_645 : decode cL_law 645 = .ok (.iconst 0, 1) := by decide +kernel
theorem dL_law_646 : decode cL_law 646 = .ok (.invokevirtual 72, 3) := by decide +kernel
theorem dL_law_649 : decode cL_law 649 = .ok (.aload_n 0, 1) := by decide +kernel
theorem dL_law_650 : decode cL_law 650 = .ok (.iload 5, 2) := by decide +kernel
theorem dL_law_652 : decode cL_law 652 = .ok (.invokestatic 46, 3) := by decide +kernel
theorem dL_law_655 : decode cL_law 655 = .ok (.if_icmp .ne 26, 3) := by decide +kernel
theorem dL_law_658 : decode cL_law 658 = .ok (.iload 4, 2) := by decide +kernel
theorem dL_law_660 : decode cL_law 660 = .ok (.bipush 6, 2) := by decide +kernel
theorem dL_law_662 : decode cL_law 662 = .ok (.invokestatic 15, 3) := by decide +kernel
theorem dL_law_665 : decode cL_law 665 = .ok (.iconst 3, 1) := by decide +kernel
theorem dL_law_666 : decode cL_law 666 = .ok (.if_icmp .ge 17, 3) := by decide +kernel
theorem dL_law_669 : decode cL_law 669 = .ok (.aload_n 1, 1) := by decide +kernel
theorem dL_law_670 : decode cL_law 670 = .ok (.iload 5, 2) := by decide +kernel
theorem dL_law_672 : decode cL_law 672 = .ok (.iconst 4, 1) := by decide +kernel
theorem dL_law_673 : decode cL_law 673 = .ok (.invokevirtual 72, 3) := by decide +kernel
theorem dL_law_676 : decode cL_law 676 = .ok (.iload 7, 2) := by decide +kernel
theorem dL_law_678 : decode cL_law 678 = .ok (.if_icmp .eq 5, 3) := by decide +kernel
theorem dL_law_681 : decode cL_law 681 = .ok (.iconst 0, 1) := by decide +kernel
theorem dL_law_682 : decode cL_law 682 = .ok (.ireturn, 1) := by decide +kernel
theorem dL_law_683 : decode cL_law 683 = .ok (.iconst 0, 1) := by decide +kernel
theorem dL_law_684 : decode cL_law 684 = .ok (.istore 13, 2) := by decide +kernel
theorem dL_law_686 : decode cL_law 686 = .ok (.iconst 0, 1) := by decide +kernel
theorem dL_law_687 : decode cL_law 687 = .ok (.istore 14, 2) := by decide +kernel
theorem dL_law_689 : decode cL_law 689 = .ok (.iload 14, 2) := by decide +kernel
theorem dL_law_691 : decode cL_law 691 = .ok (.iconst 3, 1) := by decide +kernel
theorem dL_law_692 : decode cL_law 692 = .ok (.if_icmp .ge 45, 3) := by decide +kernel
theorem dL_law_695 : decode cL_law 695 = .ok (.iconst 0, 1) := by decide +kernel
theorem dL_law_696 : decode cL_law 696 = .ok (.istore 15, 2) := by decide +kernel
