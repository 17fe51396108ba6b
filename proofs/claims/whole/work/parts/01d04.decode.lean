theorem dX8_init_187 : decode cX8_init 187 = .ok (.bipush 115, 2) := by decide +kernel
theorem dX8_init_189 : decode cX8_init 189 = .ok (.bipush 32, 2) := by decide +kernel
theorem dX8_init_191 : decode cX8_init 191 = .ok (.bipush 100, 2) := by decide +kernel
theorem dX8_init_193 : decode cX8_init 193 = .ok (.bipush 97, 2) := by decide +kernel
theorem dX8_init_195 : decode cX8_init 195 = .ok (.invokevirtual 67, 3) := by decide +kernel
theorem dX8_init_198 : decode cX8_init 198 = .ok (.aload_n 0, 1) := by decide +kernel
theorem dX8_init_199 : decode cX8_init 199 = .ok (.bipush 8, 2) := by decide +kernel
theorem dX8_init_201 : decode cX8_init 201 = .ok (.bipush 121, 2) := by decide +kernel
theorem dX8_init_203 : decode cX8_init 203 = .ok (.bipush 32, 2) := by decide +kernel
theorem dX8_init_205 : decode cX8_init 205 = .ok (.bipush 59, 2) := by decide +kernel
theorem dX8_init_207 : decode cX8_init 207 = .ok (.bipush 32, 2) := by decide +kernel
theorem dX8_init_209 : decode cX8_init 209 = .ok (.bipush 103, 2) := by decide +kernel
theorem dX8_init_211 : decode cX8_init 211 = .ok (.bipush 108, 2) := by decide +kernel
theorem dX8_init_213 : decode cX8_init 213 = .ok (.bipush 97, 2) := by decide +kernel
theorem dX8_init_215 : decode cX8_init 215 = .ok (.bipush 100, 2) := by decide +kernel
theorem dX8_init_217 : decode cX8_init 217 = .ok (.invokevirtual 67, 3) := by decide +kernel
theorem dX8_init_220 : decode cX8_init 220 = .ok (.aload_n 0, 1) := by decide +kernel
theorem dX8_init_221 : decode cX8_init 221 = .ok (.bipush 16, 2) := by decide +kernel
theorem dX8_init_223 : decode cX8_init 223 = .ok (.bipush 115, 2) := by decide +kernel
theorem dX8_init_225 : decode cX8_init 225 = .ok (.bipush 32, 2) := by decide +kernel
theorem dX8_init_227 : decode cX8_init 227 = .ok (.bipush 116, 2) := by decide +kernel
theorem dX8_init_229 : decode cX8_init 229 = .ok (.bipush 104, 2) := by decide +kernel
theorem dX8_init_231 : decode cX8_init 231 = .ok (.bipush 105, 2) := by decide +kernel
theorem dX8_init_233 : decode cX8_init 233 = .ok (.bipush 110, 2) := by decide +kernel
theorem dX8_init_235 : decode cX8_init 235 = .ok (.bipush 103, 2) := by decide +kernel
theorem dX8_init_237 : decode cX8_init 237 = .ok (.bipush 32, 2) := by decide +kernel
theorem dX8_init_239 : decode cX8_init 239 = .ok (.invokevirtual 67, 3) := by decide +kernel
theorem dX8_init_242 : decode cX8_init 242 = .ok (.aload_n 0, 1) := by decide +kernel
theorem dX8_init_243 : decode cX8_init 243 = .ok (.bipush 24, 2) := by decide +kernel
theorem dX8_init_245 : decode cX8_init 245 = .ok (.bipush 59, 2) := by decide +kernel
theorem dX8_init_247 : decode cX8_init 247 = .ok (.bipush 32, 2) := by decide +kernel
theorem dX8_init_249 : decode cX8_init 249 = .ok (.bipush 99, 2) := by decide +kernel
theorem dX8_init_251 : decode cX8_init 251 = .ok (.bipush 111, 2) := by decide +kernel
theorem dX8_init_253 : decode cX8_init 253 = .ok (.bipush 115, 2) := by decide +kernel
theorem dX8_init_255 : decode cX8_init 255 = .ok (.bipush 116, 2) := by decide +kernel
theorem dX8_init_257 : decode cX8_init 257 = .ok (.bipush 115, 2) := by decide +kernel
theorem dX8_init_259 : decode cX8_init 259 = .ok (.bipush 32, 2) := by decide +kernel
theorem dX8_init_261 : decode cX8_init 261 = .ok (.invokevirtual 67, 3) := by decide +kernel
theorem dX8_init_264 : decode cX8_init 264 = .ok (.aload_n 0, 1) := by decide +kernel
theorem dX8_init_265 : decode cX8_init 265 = .ok (.bipush 32, 2) := by decide +kernel
theorem dX8_init_267 : decode cX8_init 267 = .ok (.bipush 119, 2) := by decide +kernel
theorem dX8_init_269 : decode cX8_init 269 = .ok (.bipush 111, 2) := by decide +kernel
theorem dX8_init_271 : decode cX8_init 271 = .ok (.bipush 114, 2) := by decide +kernel
theorem dX8_init_273 : decode cX8_init 273 = .ok (.bipush 100, 2) := by decide +kernel
theorem dX8_init_275 : decode cX8_init 275 = .ok (.bipush 115, 2) := by decide +kernel
theorem dX8_init_277 : decode cX8_init 277 = .ok (.bipush 32, 2) := by decide +kernel
theorem dX8_init_279 : decode cX8_init 279 = .ok (.bipush 59, 2) := by decide +kernel
theorem dX8_init_281 : decode cX8_init 281 = .ok (.bipush 32, 2) := by decide +kernel
theorem dX8_init_283 : decode cX8_init 283 = .ok (.invokevirtual 67, 3) := by decide +kernel
theorem dX8_init_286 : decode cX8_init 286 = .ok (.aload_n 0, 1) := by decide +kernel
theorem dX8_init_287 : decode cX8_init 287 = .ok (.getfield 17, 3) := by decide +kernel
theorem dX8_init_290 : decode cX8_init 290 = .ok (.iconst 0, 1) := by decide +kernel
theorem dX8_init_291 : decode cX8_init 291 = .ok (.bipush 40, 2) := by decide +kernel
theorem dX8_init_293 : decode cX8_init 293 = .ok (.iastore, 1) := by decide +kernel
theorem dX8_init_294 : decode cX8_init 294 = .ok (.aload_n 0, 1) := by decide +kernel
theorem dX8_init_295 : decode cX8_init 295 = .ok (.iconst 1, 1) := by decide +kernel
theorem dX8_init_296 : decode cX8_init 296 = .ok (.putfield 71, 3) := by decide +kernel
theorem dX8_init_299 : decode cX8_init 299 = .ok (.return_, 1) := by decide +kernel
theorem dX8_spell_0 : decode cX8_spell 0 = .ok (.aload_n 0, 1) := by decide +kernel
theorem dX8_spell_1 : decode cX8_spell 1 = .ok (.getfield 13, 3) := by decide +kernel
theorem dX8_spell_4 : decode cX8_spell 4 = .ok (.iload_n 1, 1) := by decide +kernel
theorem dX8_spell_5 : decode cX8_spell 5 = .ok (.iload_n 2, 1) := by decide +kernel
theorem dX8_spell_6 : decode cX8_spell 6 = .ok (.iastore, 1) := by decide +kernel
theorem dX8_spell_7 : decode cX8_spell 7 = .ok (.aload_n 0, 1) := by decide +kernel
theorem dX8_spell_8 : decode cX8_spell 8 = .ok (.getfield 13, 3) := by decide +kernel
theorem dX8_spell_11 : decode cX8_spell 11 = .ok (.iload_n 1, 1) := by decide +kernel
theorem dX8_spell_12 : decode cX8_spell 12 = .ok (.iconst 1, 1) := by decide +kernel
theorem dX8_spell_13 : decode cX8_spell 13 = .ok (.iadd, 1) := by decide +kernel
theorem dX8_spell_14 : decode cX8_spell 14 = .ok (.iload_n 3, 1) := by decide +kernel
theorem dX8_spell_15 : decode cX8_spell 15 = .ok (.iastore, 1) := by decide +kernel
theorem dX8_spell_16 : decode cX8_spell 16 = .ok (.aload_n 0, 1) := by decide +kernel
theorem dX8_spell_17 : decode cX8_spell 17 = .ok (.getfield 13, 3) := by decide +kernel
theorem dX8_spell_20 : decode cX8_spell 20 = .ok (.iload_n 1, 1) := by decide +kernel
theorem dX8_spell_21 : decode cX8_spell 21 = .ok (.iconst 2, 1) := by decide +kernel
theorem dX8_spell_22 : decode cX8_spell 22 = .ok (.iadd, 1) := by decide +kernel
theorem dX8_spell_23 : decode cX8_spell 23 = .ok (.iload 4, 2) := by decide +kernel
theorem dX8_spell_25 : decode cX8_spell 25 = .ok (.iastore, 1) := by decide +kernel
theorem dX8_spell_26 : decode cX8_spell 26 = .ok (.aload_n 0, 1) := by decide +kernel
theorem dX8_spell_27 : decode cX8_spell 27 = .ok (.getfield 13, 3) := by decide +kernel
theorem dX8_spell_30 : decode cX8_spell 30 = .ok (.iload_n 1, 1) := by decide +kernel
theorem dX8_spell_31 : decode cX8_spell 31 = .ok (.iconst 3, 1) := by decide +kernel
theorem dX8_spell_32 : decode cX8_spell 32 = .ok (.iadd, 1) := by decide +kernel
theorem dX8_spell_33 : decode cX8_spell 33 = .ok (.iload 5, 2) := by decide +kernel
theorem dX8_spell_35 : decode cX8_spell 35 = .ok (.iastore, 1) := by decide +kernel
theorem dX8_spell_36 : decode cX8_spell 36 = .ok (.aload_n 0, 1) := by decide +kernel
theorem dX8_spell_37 : decode cX8_spell 37 = .ok (.getfield 13, 3) := by decide +kernel
theorem dX8_spell_40 : decode cX8_spell 40 = .ok (.iload_n 1, 1) := by decide +kernel
theorem dX8_spell_41 : decode cX8_spell 41 = .ok (.iconst 4, 1) := by decide +kernel
theorem dX8_spell_42 : decode cX8_spell 42 = .ok (.iadd, 1) := by decide +kernel
theorem dX8_spell_43 : decode cX8_spell 43 = .ok (.iload 6, 2) := by decide +kernel
theorem dX8_spell_45 : decode cX8_spell 45 = .ok (.iastore, 1) := by decide +kernel
theorem dX8_spell_46 : decode cX8_spell 46 = .ok (.aload_n 0, 1) := by decide +kernel
theorem dX8_spell_47 : decode cX8_spell 47 = .ok (.getfield 13, 3) := by decide +kernel
theorem dX8_spell_50 : decode cX8_spell 50 = .ok (.iload_n 1, 1) := by decide +kernel
theorem dX8_spell_51 : decode cX8_spell 51 = .ok (.iconst 5, 1) := by decide +kernel
theorem dX8_spell_52 : decode cX8_spell 52 = .ok (.iadd, 1) := by decide +kernel
theorem dX8_spell_53 : decode cX8_spell 53 = .ok (.iload 7, 2) := by decide +kernel
theorem dX8_spell_55 : decode cX8_spell 55 = .ok (.iastore, 1) := by decide +kernel
theorem dX8_spell_56 : decode cX8_spell 56 = .ok (.aload_n 0, 1) := by decide +kernel
theorem dX8_spell_57 : decode cX8_spell 57 = .ok (.getfield 13, 3) := by decide +kernel
theorem dX8_spell_60 : decode cX8_spell 60 = .ok (.iload_n 1, 1) := by decide +kernel
theorem dX8_spell_61 : decode cX8_spell 61 = .ok (.bipush 6, 2) := by decide +kernel
theorem dX8_spell_63 : decode cX8_spell 63 = .ok (.iadd, 1) := by decide +kernel
theorem dX8_spell_64 : decode cX8_spell 64 = .ok (.iload 8, 2) := by decide +kernel
theorem dX8_spell_66 : decode cX8_spell 66 = .ok (.iastore, 1) := by decide +kernel
theorem dX8_spell_67 : decode cX8_spell 67 = .ok (.aload_n 0, 1) := by decide +kernel
theorem dX8_spell_68 : decode cX8_spell 68 = .ok (.getfield 13, 3) := by decide +kernel
theorem dX8_spell_71 : decode cX8_spell 71 = .ok (.iload_n 1, 1) := by decide +kernel
theorem dX8_spell_72 : decode cX8_spell 72 = .ok (.bipush 7, 2) := by decide +kernel
theorem dX8_spell_74 : decode cX8_spell 74 = .ok (.iadd, 1) := by decide +kernel
theorem dX8_spell_75 : decode cX8_spell 75 = .ok (.iload 9, 2) := by decide +kernel
theorem dX8_spell_77 : decode cX8_spell 77 = .ok (.iastore, 1) := by decide +kernel
theorem dX8_spell_78 : decode cX8_spell 78 = .ok (.return_, 1) := by decide +kernel
theorem dX8_bitsOf_0 : decode cX8_bitsOf 0 = .ok (.iconst 0, 1) := by decide +kernel
theorem dX8_bitsOf_1 : decode cX8_bitsOf 1 = .ok (.istore_n 1, 1) := by decide +kernel
theorem dX8_bitsOf_2 : decode cX8_bitsOf 2 = .ok (.iload_n 0, 1) := by decide +kernel
theorem dX8_bitsOf_3 : decode cX8_bitsOf 3 = .ok (.istore_n 2, 1) := by decide +kernel
theorem dX8_bitsOf_4 : decode cX8_bitsOf 4 = .ok (.iload_n 2, 1) := by decide +kernel
theorem dX8_bitsOf_5 : decode cX8_bitsOf 5 = .ok (.ifCond .eq 15, 3) := by decide +kernel
theorem dX8_bitsOf_8 : decode cX8_bitsOf 8 = .ok (.iinc 1 1, 3) := by decide +kernel
theorem dX8_bitsOf_11 : decode cX8_bitsOf 11 = .ok (.iload_n 2, 1) := by decide +kernel
theorem dX8_bitsOf_12 : decode cX8_bitsOf 12 = .ok (.iload_n 2, 1) := by decide +kernel
theorem dX8_bitsOf_13 : decode cX8_bitsOf 13 = .ok (.iconst 1, 1) := by decide +kernel
theorem dX8_bitsOf_14 : decode cX8_bitsOf 14 = .ok (.isub, 1) := by decide +kernel
theorem dX8_bitsOf_15 : decode cX8_bitsOf 15 = .ok (.iand, 1) := by decide +kernel
theorem dX8_bitsOf_16 : decode cX8_bitsOf 16 = .ok (.istore_n 2, 1) := by decide +kernel
theorem dX8_bitsOf_17 : decode cX8_bitsOf 17 = .ok (.goto (-13), 3) := by decide +kernel
theorem dX8_bitsOf_20 : decode cX8_bitsOf 20 = .ok (.iload_n 1, 1) := by decide +kernel
theorem dX8_bitsOf_21 : decode cX8_bitsOf 21 = .ok (.ireturn, 1) := by decide +kernel
theorem dX8_isOne_0 : decode cX8_isOne 0 = .ok (.iload_n 1, 1) := by decide +kernel
theorem dX8_isOne_1 : decode cX8_isOne 1 = .ok (.i2l, 1) := by decide +kernel
theorem dX8_isOne_2 : decode cX8_isOne 2 = .ok (.lconst 0, 1) := by decide +kernel
theorem dX8_isOne_3 : decode cX8_isOne 3 = .ok (.aload_n 0, 1) := by decide +kernel
theorem dX8_isOne_4 : decode cX8_isOne 4 = .ok (.getfield 74, 3) := by decide +kernel
theorem dX8_isOne_7 : decode cX8_isOne 7 = .ok (.iconst 1, 1) := by decide +kernel
theorem dX8_isOne_8 : decode cX8_isOne 8 = .ok (.isub, 1) := by decide +kernel
theorem dX8_isOne_9 : decode cX8_isOne 9 = .ok (.i2l, 1) := by decide +kernel
theorem dX8_isOne_10 : decode cX8_isOne 10 = .ok (.invokestatic 77, 3) := by decide +kernel
theorem dX8_isOne_13 : decode cX8_isOne 13 = .ok (.ireturn, 1) := by decide +kernel
theorem dX8_isThing_0 : decode cX8_isThing 0 = .ok (.iload_n 0, 1) := by decide +kernel
theorem dX8_isThing_1 : decode cX8_isThing 1 = .ok (.i2l, 1) := by decide +kernel
theorem dX8_isThing_2 : decode cX8_isThing 2 = .ok (.lconst 0, 1) := by decide +kernel
theorem dX8_isThing_3 : decode cX8_isThing 3 = .ok (.ldc2_w 81, 3) := by decide +kernel
theorem dX8_isThing_6 : decode cX8_isThing 6 = .ok (.invokestatic 77, 3) := by decide +kernel
theorem dX8_isThing_9 : decode cX8_isThing 9 = .ok (.ireturn, 1) := by decide +kernel
theorem dX8_like_0 : decode cX8_like 0 = .ok (.iload_n 1, 1) := by decide +kernel
theorem dX8_like_1 : decode cX8_like 1 = .ok (.invokestatic 83, 3) := by decide +kernel
theorem dX8_like_4 : decode cX8_like 4 = .ok (.ifCond .eq 25, 3) := by decide +kernel
theorem dX8_like_7 : decode cX8_like 7 = .ok (.iload_n 2, 1) := by decide +kernel
theorem dX8_like_8 : decode cX8_like 8 = .ok (.invokestatic 83, 3) := by decide +kernel
theorem dX8_like_11 : decode cX8_like 11 = .ok (.ifCond .eq 18, 3) := by decide +kernel
theorem dX8_like_14 : decode cX8_like 14 = .ok (.iload_n 1, 1) := by decide +kernel
theorem dX8_like_15 : decode cX8_like 15 = .ok (.iload_n 2, 1) := by decide +kernel
theorem dX8_like_16 : decode cX8_like 16 = .ok (.if_icmp .eq 13, 3) := by decide +kernel
theorem dX8_like_19 : decode cX8_like 19 = .ok (.iload_n 3, 1) := by decide +kernel
theorem dX8_like_20 : decode cX8_like 20 = .ok (.i2l, 1) := by decide +kernel
theorem dX8_like_21 : decode cX8_like 21 = .ok (.lconst 0, 1) := by decide +kernel
theorem dX8_like_22 : decode cX8_like 22 = .ok (.lconst 1, 1) := by decide +kernel
theorem dX8_like_23 : decode cX8_like 23 = .ok (.invokestatic 77, 3) := by decide +kernel
theorem dX8_like_26 : decode cX8_like 26 = .ok (.ifCond .ne 6, 3) := by decide +kernel
theorem dX8_like_29 : decode cX8_like 29 = .ok (.bipush (-2), 2) := by decide +kernel
theorem dX8_like_31 : decode cX8_like 31 = .ok (.ireturn, 1) := by decide +kernel
theorem dX8_like_32 : decode cX8_like 32 = .ok (.aload_n 0, 1) := by decide +kernel
theorem dX8_like_33 : decode cX8_like 33 = .ok (.getfield 23, 3) := by decide +kernel
theorem dX8_like_36 : decode cX8_like 36 = .ok (.iload_n 1, 1) := by decide +kernel
theorem dX8_like_37 : decode cX8_like 37 = .ok (.iaload, 1) := by decide +kernel
theorem dX8_like_38 : decode cX8_like 38 = .ok (.iload_n 2, 1) := by decide +kernel
theorem dX8_like_39 : decode cX8_like 39 = .ok (.ishr, 1) := by decide +kernel
theorem dX8_like_40 : decode cX8_like 40 = .ok (.iconst 1, 1) := by decide +kernel
theorem dX8_like_41 : decode cX8_like 41 = .ok (.iand, 1) := by decide +kernel
theorem dX8_like_42 : decode cX8_like 42 = .ok (.istore 4, 2) := by decide +kernel
theorem dX8_like_44 : decode cX8_like 44 = .ok (.aload_n 0, 1) := by decide +kernel
theorem dX8_like_45 : decode cX8_like 45 = .ok (.getfield 23, 3) := by decide +kernel
theorem dX8_like_48 : decode cX8_like 48 = .ok (.iload_n 1, 1) := by decide +kernel
theorem dX8_like_49 : decode cX8_like 49 = .ok (.aload_n 0, 1) := by decide +kernel
theorem dX8_like_50 : decode cX8_like 50 = .ok (.getfield 23, 3) := by decide +kernel
theorem dX8_like_53 : decode cX8_like 53 = .ok (.iload_n 1, 1) := by decide +kernel
theorem dX8_like_54 : decode cX8_like 54 = .ok (.iaload, 1) := by decide +kernel
theorem dX8_like_55 : decode cX8_like 55 = .ok (.iconst 1, 1) := by decide +kernel
theorem dX8_like_56 : decode cX8_like 56 = .ok (.iload_n 2, 1) := by decide +kernel
theorem dX8_like_57 : decode cX8_like 57 = .ok (.ishl, 1) := by decide +kernel
theorem dX8_like_58 : decode cX8_like 58 = .ok (.iconst (-1), 1) := by decide +kernel
theorem dX8_like_59 : decode cX8_like 59 = .ok (.ixor, 1) := by decide +kernel
theorem dX8_like_60 : decode cX8_like 60 = .ok (.iand, 1) := by decide +kernel
theorem dX8_like_61 : decode cX8_like 61 = .ok (.iload_n 3, 1) := by decide +kernel
theorem dX8_like_62 : decode cX8_like 62 = .ok (.iload_n 2, 1) := by decide +kernel
theorem dX8_like_63 : decode cX8_like 63 = .ok (.ishl, 1) := by decide +kernel
theorem dX8_like_64 : decode cX8_like 64 = .ok (.ior, 1) := by decide +kernel
theorem dX8_like_65 : decode cX8_like 65 = .ok (.iastore, 1) := by decide +kernel
theorem dX8_like_66 : decode cX8_like 66 = .ok (.aload_n 0, 1) := by decide +kernel
theorem dX8_like_67 : decode cX8_like 67 = .ok (.getfield 23, 3) := by decide +kernel
theorem dX8_like_70 : decode cX8_like 70 = .ok (.iload_n 2, 1) := by decide +kernel
theorem dX8_like_71 : decode cX8_like 71 = .ok (.aload_n 0, 1) := by decide +kernel
theorem dX8_like_72 : decode cX8_like 72 = .ok (.getfield 23, 3) := by decide +kernel
theorem dX8_like_75 : decode cX8_like 75 = .ok (.iload_n 2, 1) := by decide +kernel
theorem dX8_like_76 : decode cX8_like 76 = .ok (.iaload, 1) := by decide +kernel
theorem dX8_like_77 : decode cX8_like 77 = .ok (.iconst 1, 1) := by decide +kernel
theorem dX8_like_78 : decode cX8_like 78 = .ok (.iload_n 1, 1) := by decide +kernel
theorem dX8_like_79 : decode cX8_like 79 = .ok (.ishl, 1) := by decide +kernel
theorem dX8_like_80 : decode cX8_like 80 = .ok (.iconst (-1), 1) := by decide +kernel
theorem dX8_like_81 : decode cX8_like 81 = .ok (.ixor, 1) := by decide +kernel
theorem dX8_like_82 : decode cX8_like 82 = .ok (.iand, 1) := by decide +kernel
theorem dX8_like_83 : decode cX8_like 83 = .ok (.iload_n 3, 1) := by decide +kernel
theorem dX8_like_84 : decode cX8_like 84 = .ok (.iload_n 1, 1) := by decide +kernel
theorem dX8_like_85 : decode cX8_like 85 = .ok (.ishl, 1) := by decide +kernel
theorem dX8_like_86 : decode cX8_like 86 = .ok (.ior, 1) := by decide +kernel
theorem dX8_like_87 : decode cX8_like 87 = .ok (.iastore, 1) := by decide +kernel
theorem dX8_like_88 : decode cX8_like 88 = .ok (.iload 4, 2) := by decide +kernel
theorem dX8_like_90 : decode cX8_like 90 = .ok (.ireturn, 1) := by decide +kernel
theorem dX8_mostOf_0 : decode cX8_mostOf 0 = .ok (.iload_n 0, 1) := by decide +kernel
theorem dX8_mostOf_1 : decode cX8_mostOf 1 = .ok (.ifCond .ne 9, 3) := by decide +kernel
theorem dX8_mostOf_4 : decode cX8_mostOf 4 = .ok (.sipush 999, 3) := by decide +kernel
theorem dX8_mostOf_7 : decode cX8_mostOf 7 = .ok (.goto 27, 3) := by decide +kernel
theorem dX8_mostOf_10 : decode cX8_mostOf 10 = .ok (.iload_n 0, 1) := by decide +kernel
theorem dX8_mostOf_11 : decode cX8_mostOf 11 = .ok (.iconst 1, 1) := by decide +kernel
theorem dX8_mostOf_12 : decode cX8_mostOf 12 = .ok (.if_icmp .ne 8, 3) := by decide +kernel
theorem dX8_mostOf_15 : decode cX8_mostOf 15 = .ok (.bipush 9, 2) := by decide +kernel
theorem dX8_mostOf_17 : decode cX8_mostOf 17 = .ok (.goto 17, 3) := by decide +kernel
theorem dX8_mostOf_20 : decode cX8_mostOf 20 = .ok (.iload_n 0, 1) := by decide +kernel
theorem dX8_mostOf_21 : decode cX8_mostOf 21 = .ok (.iconst 4, 1) := by decide +kernel
theorem dX8_mostOf_22 : decode cX8_mostOf 22 = .ok (.if_icmp .ne 9, 3) := by decide +kernel
theorem dX8_mostOf_25 : decode cX8_mostOf 25 = .ok (.sipush 9999, 3) := by decide +kernel
theorem dX8_mostOf_28 : decode cX8_mostOf 28 = .ok (.goto 6, 3) := by decide +kernel
theorem dX8_mostOf_31 : decode cX8_mostOf 31 = .ok (.sipush 4095, 3) := by decide +kernel
theorem dX8_mostOf_34 : decode cX8_mostOf 34 = .ok (.ireturn, 1) := by decide +kernel
theorem dX8_set_0 : decode cX8_set 0 = .ok (.iload_n 1, 1) := by decide +kernel
theorem dX8_set_1 : decode cX8_set 1 = .ok (.i2l, 1) := by decide +kernel
theorem dX8_set_2 : decode cX8_set 2 = .ok (.lconst 0, 1) := by decide +kernel
theorem dX8_set_3 : decode cX8_set 3 = .ok (.ldc2_w 87, 3) := by decide +kernel
theorem dX8_set_6 : decode cX8_set 6 = .ok (.invokestatic 77, 3) := by decide +kernel
theorem dX8_set_9 : decode cX8_set 9 = .ok (.ifCond .eq 29, 3) := by decide +kernel
theorem dX8_set_12 : decode cX8_set 12 = .ok (.iload_n 1, 1) := by decide +kernel
theorem dX8_set_13 : decode cX8_set 13 = .ok (.ifCond .le 11, 3) := by decide +kernel
theorem dX8_set_16 : decode cX8_set 16 = .ok (.aload_n 0, 1) := by decide +kernel
theorem dX8_set_17 : decode cX8_set 17 = .ok (.iload_n 2, 1) := by decide +kernel
theorem dX8_set_18 : decode cX8_set 18 = .ok (.invokevirtual 89, 3) := by decide +kernel
theorem dX8_set_21 : decode cX8_set 21 = .ok (.ifCond .eq 17, 3) := by decide +kernel
theorem dX8_set_24 : decode cX8_set 24 = .ok (.iload_n 3, 1) := by decide +kernel
theorem dX8_set_25 : decode cX8_set 25 = .ok (.i2l, 1) := by decide +kernel
theorem dX8_set_26 : decode cX8_set 26 = .ok (.lconst 0, 1) := by decide +kernel
theorem dX8_set_27 : decode cX8_set 27 = .ok (.iload_n 1, 1) := by decide +kernel
theorem dX8_set_28 : decode cX8_set 28 = .ok (.invokestatic 92, 3) := by decide +kernel
theorem dX8_set_31 : decode cX8_set 31 = .ok (.i2l, 1) := by decide +kernel
theorem dX8_set_32 : decode cX8_set 32 = .ok (.invokestatic 77, 3) := by decide +kernel
theorem dX8_set_35 : decode cX8_set 35 = .ok (.ifCond .ne 6, 3) := by decide +kernel
theorem dX8_set_38 : decode cX8_set 38 = .ok (.bipush (-2), 2) := by decide +kernel
theorem dX8_set_40 : decode cX8_set 40 = .ok (.ireturn, 1) := by decide +kernel
theorem dX8_set_41 : decode cX8_set 41 = .ok (.aload_n 0, 1) := by decide +kernel
theorem dX8_set_42 : decode cX8_set 42 = .ok (.iload_n 2, 1) := by decide +kernel
theorem dX8_set_43 : decode cX8_set 43 = .ok (.iload_n 1, 1) := by decide +kernel
theorem dX8_set_44 : decode cX8_set 44 = .ok (.invokevirtual 95, 3) := by decide +kernel
theorem dX8_set_47 : decode cX8_set 47 = .ok (.istore 4, 2) := by decide +kernel
theorem dX8_set_49 : decode cX8_set 49 = .ok (.aload_n 0, 1) := by decide +kernel
theorem dX8_set_50 : decode cX8_set 50 = .ok (.iload_n 1, 1) := by decide +kernel
theorem dX8_set_51 : decode cX8_set 51 = .ok (.iload_n 2, 1) := by decide +kernel
theorem dX8_set_52 : decode cX8_set 52 = .ok (.iload_n 3, 1) := by decide +kernel
theorem dX8_set_53 : decode cX8_set 53 = .ok (.invokevirtual 99, 3) := by decide +kernel
theorem dX8_set_56 : decode cX8_set 56 = .ok (.iload 4, 2) := by decide +kernel
theorem dX8_set_58 : decode cX8_set 58 = .ok (.ireturn, 1) := by decide +kernel
theorem dX8_lays_0 : decode cX8_lays 0 = .ok (.iload_n 1, 1) := by decide +kernel
theorem dX8_lays_1 : decode cX8_lays 1 = .ok (.ifCond .ne 11, 3) := by decide +kernel
theorem dX8_lays_4 : decode cX8_lays 4 = .ok (.aload_n 0, 1) := by decide +kernel
theorem dX8_lays_5 : decode cX8_lays 5 = .ok (.iload_n 3, 1) := by decide +kernel
theorem dX8_lays_6 : decode cX8_lays 6 = .ok (.putfield 103, 3) := by decide +kernel
theorem dX8_lays_9 : decode cX8_lays 9 = .ok (.goto 44, 3) := by decide +kernel
theorem dX8_lays_12 : decode cX8_lays 12 = .ok (.iload_n 1, 1) := by decide +kernel
theorem dX8_lays_13 : decode cX8_lays 13 = .ok (.iconst 5, 1) := by decide +kernel
theorem dX8_lays_14 : decode cX8_lays 14 = .ok (.if_icmp .ge 19, 3) := by decide +kernel
theorem dX8_lays_17 : decode cX8_lays 17 = .ok (.aload_n 0, 1) := by decide +kernel
theorem dX8_lays_18 : decode cX8_lays 18 = .ok (.getfield 29, 3) := by decide +kernel
theorem dX8_lays_21 : decode cX8_lays 21 = .ok (.iconst 4, 1) := by decide +kernel
theorem dX8_lays_22 : decode cX8_lays 22 = .ok (.iload_n 2, 1) := by decide +kernel
theorem dX8_lays_23 : decode cX8_lays 23 = .ok (.imul, 1) := by decide +kernel
theorem dX8_lays_24 : decode cX8_lays 24 = .ok (.iload_n 1, 1) := by decide +kernel
theorem dX8_lays_25 : decode cX8_lays 25 = .ok (.iadd, 1) := by decide +kernel
theorem dX8_lays_26 : decode cX8_lays 26 = .ok (.iconst 1, 1) := by decide +kernel
theorem dX8_lays_27 : decode cX8_lays 27 = .ok (.isub, 1) := by decide +kernel
theorem dX8_lays_28 : decode cX8_lays 28 = .ok (.iload_n 3, 1) := by decide +kernel
theorem dX8_lays_29 : decode cX8_lays 29 = .ok (.iastore, 1) := by decide +kernel
theorem dX8_lays_30 : decode cX8_lays 30 = .ok (.goto 23, 3) := by decide +kernel
theorem dX8_lays_33 : decode cX8_lays 33 = .ok (.iload_n 1, 1) := by decide +kernel
theorem dX8_lays_34 : decode cX8_lays 34 = .ok (.iconst 5, 1) := by decide +kernel
theorem dX8_lays_35 : decode cX8_lays 35 = .ok (.if_icmp .ne 13, 3) := by decide +kernel
theorem dX8_lays_38 : decode cX8_lays 38 = .ok (.aload_n 0, 1) := by decide +kernel
theorem dX8_lays_39 : decode cX8_lays 39 = .ok (.getfield 26, 3) := by decide +kernel
theorem dX8_lays_42 : decode cX8_lays 42 = .ok (.iload_n 2, 1) := by decide +kernel
theorem dX8_lays_43 : decode cX8_lays 43 = .ok (.iload_n 3, 1) := by decide +kernel
theorem dX8_lays_44 : decode cX8_lays 44 = .ok (.iastore, 1) := by decide +kernel
theorem dX8_lays_45 : decode cX8_lays 45 = .ok (.goto 8, 3) := by decide +kernel
theorem dX8_lays_48 : decode cX8_lays 48 = .ok (.aload_n 0, 1) := by decide +kernel
theorem dX8_lays_49 : decode cX8_lays 49 = .ok (.iload_n 3, 1) := by decide +kernel
theorem dX8_lays_50 : decode cX8_lays 50 = .ok (.putfield 106, 3) := by decide +kernel
theorem dX8_lays_53 : decode cX8_lays 53 = .ok (.return_, 1) := by decide +kernel
theorem dX8_asker_0 : decode cX8_asker 0 = .ok (.iload_n 1, 1) := by decide +kernel
theorem dX8_asker_1 : decode cX8_asker 1 = .ok (.i2l, 1) := by decide +kernel
theorem dX8_asker_2 : decode cX8_asker 2 = .ok (.lconst 0, 1) := by decide +kernel
theorem dX8_asker_3 : decode cX8_asker 3 = .ok (.ldc2_w 109, 3) := by decide +kernel
theorem dX8_asker_6 : decode cX8_asker 6 = .ok (.invokestatic 77, 3) := by decide +kernel
theorem dX8_asker_9 : decode cX8_asker 9 = .ok (.ifCond .eq 15, 3) := by decide +kernel
theorem dX8_asker_12 : decode cX8_asker 12 = .ok (.iload_n 2, 1) := by decide +kernel
theorem dX8_asker_13 : decode cX8_asker 13 = .ok (.i2l, 1) := by decide +kernel
theorem dX8_asker_14 : decode cX8_asker 14 = .ok (.lconst 0, 1) := by decide +kernel
theorem dX8_asker_15 : decode cX8_asker 15 = .ok (.ldc2_w 111, 3) := by decide +kernel
theorem dX8_asker_18 : decode cX8_asker 18 = .ok (.invokestatic 77, 3) := by decide +kernel
theorem dX8_asker_21 : decode cX8_asker 21 = .ok (.ifCond .ne 6, 3) := by decide +kernel
theorem dX8_asker_24 : decode cX8_asker 24 = .ok (.bipush (-2), 2) := by decide +kernel
theorem dX8_asker_26 : decode cX8_asker 26 = .ok (.ireturn, 1) := by decide +kernel
theorem dX8_asker_27 : decode cX8_asker 27 = .ok (.aload_n 0, 1) := by decide +kernel
theorem dX8_asker_28 : decode cX8_asker 28 = .ok (.getfield 74, 3) := by decide +kernel
theorem dX8_asker_31 : decode cX8_asker 31 = .ok (.iconst 5, 1) := by decide +kernel
theorem dX8_asker_32 : decode cX8_asker 32 = .ok (.if_icmp .ne 6, 3) := by decide +kernel
theorem dX8_asker_35 : decode cX8_asker 35 = .ok (.bipush (-4), 2) := by decide +kernel
theorem dX8_asker_37 : decode cX8_asker 37 = .ok (.ireturn, 1) := by decide +kernel
theorem dX8_asker_38 : decode cX8_asker 38 = .ok (.aload_n 0, 1) := by decide +kernel
theorem dX8_asker_39 : decode cX8_asker 39 = .ok (.getfield 26, 3) := by decide +kernel
theorem dX8_asker_42 : decode cX8_asker 42 = .ok (.aload_n 0, 1) := by decide +kernel
theorem dX8_asker_43 : decode cX8_asker 43 = .ok (.getfield 74, 3) := by decide +kernel
theorem dX8_asker_46 : decode cX8_asker 46 = .ok (.iload_n 1, 1) := by decide +kernel
theorem dX8_asker_47 : decode cX8_asker 47 = .ok (.iastore, 1) := by decide +kernel
theorem dX8_asker_48 : decode cX8_asker 48 = .ok (.aload_n 0, 1) := by decide +kernel
theorem dX8_asker_49 : decode cX8_asker 49 = .ok (.getfield 29, 3) := by decide +kernel
theorem dX8_asker_52 : decode cX8_asker 52 = .ok (.iconst 4, 1) := by decide +kernel
theorem dX8_asker_53 : decode cX8_asker 53 = .ok (.aload_n 0, 1) := by decide +kernel
theorem dX8_asker_54 : decode cX8_asker 54 = .ok (.getfield 74, 3) := by decide +kernel
theorem dX8_asker_57 : decode cX8_asker 57 = .ok (.imul, 1) := by decide +kernel
theorem dX8_asker_58 : decode cX8_asker 58 = .ok (.iload_n 2, 1) := by decide +kernel
theorem dX8_asker_59 : decode cX8_asker 59 = .ok (.iastore, 1) := by decide +kernel
theorem dX8_asker_60 : decode cX8_asker 60 = .ok (.aload_n 0, 1) := by decide +kernel
theorem dX8_asker_61 : decode cX8_asker 61 = .ok (.getfield 29, 3) := by decide +kernel
theorem dX8_asker_64 : decode cX8_asker 64 = .ok (.iconst 4, 1) := by decide +kernel
theorem dX8_asker_65 : decode cX8_asker 65 = .ok (.aload_n 0, 1) := by decide +kernel
theorem dX8_asker_66 : decode cX8_asker 66 = .ok (.getfield 74, 3) := by decide +kernel
theorem dX8_asker_69 : decode cX8_asker 69 = .ok (.imul, 1) := by decide +kernel
theorem dX8_asker_70 : decode cX8_asker 70 = .ok (.iconst 1, 1) := by decide +kernel
theorem dX8_asker_71 : decode cX8_asker 71 = .ok (.iadd, 1) := by decide +kernel
theorem dX8_asker_72 : decode cX8_asker 72 = .ok (.iconst 0, 1) := by decide +kernel
theorem dX8_asker_73 : decode cX8_asker 73 = .ok (.iastore, 1) := by decide +kernel
theorem dX8_asker_74 : decode cX8_asker 74 = .ok (.aload_n 0, 1) := by decide +kernel
theorem dX8_asker_75 : decode cX8_asker 75 = .ok (.getfield 29, 3) := by decide +kernel
theorem dX8_asker_78 : decode cX8_asker 78 = .ok (.iconst 4, 1) := by decide +kernel
theorem dX8_asker_79 : decode cX8_asker 79 = .ok (.aload_n 0, 1) := by decide +kernel
theorem dX8_asker_80 : decode cX8_asker 80 = .ok (.getfield 74, 3) := by decide +kernel
theorem dX8_asker_83 : decode cX8_asker 83 = .ok (.imul, 1) := by decide +kernel
theorem dX8_asker_84 : decode cX8_asker 84 = .ok (.iconst 2, 1) := by decide +kernel
theorem dX8_asker_85 : decode cX8_asker 85 = .ok (.iadd, 1) := by decide +kernel
theorem dX8_asker_86 : decode cX8_asker 86 = .ok (.iconst 0, 1) := by decide +kernel
theorem dX8_asker_87 : decode cX8_asker 87 = .ok (.iastore, 1) := by decide +kernel
theorem dX8_asker_88 : decode cX8_asker 88 = .ok (.aload_n 0, 1) := by decide +kernel
theorem dX8_asker_89 : decode cX8_asker 89 = .ok (.getfield 29, 3) := by decide +kernel
theorem dX8_asker_92 : decode cX8_asker 92 = .ok (.iconst 4, 1) := by decide +kernel
theorem dX8_asker_93 : decode cX8_asker 93 = .ok (.aload_n 0, 1) := by decide +kernel
theorem dX8_asker_94 : decode cX8_asker 94 = .ok (.getfield 74, 3) := by decide +kernel
theorem dX8_asker_97 : decode cX8_asker 97 = .ok (.imul, 1) := by decide +kernel
theorem dX8_asker_98 : decode cX8_asker 98 = .ok (.iconst 3, 1) := by decide +kernel
theorem dX8_asker_99 : decode cX8_asker 99 = .ok (.iadd, 1) := by decide +kernel
theorem dX8_asker_100 : decode cX8_asker 100 = .ok (.iconst 0, 1) := by decide +kernel
theorem dX8_asker_101 : decode cX8_asker 101 = .ok (.iastore, 1) := by decide +kernel
theorem dX8_asker_102 : decode cX8_asker 102 = .ok (.aload_n 0, 1) := by decide +kernel
theorem dX8_asker_103 : decode cX8_asker 103 = .ok (.dup, 1) := by decide +kernel
theorem dX8_asker_104 : decode cX8_asker 104 = .ok (.getfield 74, 3) := by decide +kernel
theorem dX8_asker_107 : decode cX8_asker 107 = .ok (.iconst 1, 1) := by decide +kernel
theorem dX8_asker_108 : decode cX8_asker 108 = .ok (.iadd, 1) := by decide +kernel
theorem dX8_asker_109 : decode cX8_asker 109 = .ok (.putfield 74, 3) := by decide +kernel
theorem dX8_asker_112 : decode cX8_asker 112 = .ok (.aload_n 0, 1) := by decide +kernel
theorem dX8_asker_113 : decode cX8_asker 113 = .ok (.getfield 74, 3) := by decide +kernel
theorem dX8_asker_116 : decode cX8_asker 116 = .ok (.iconst 1, 1) := by decide +kernel
theorem dX8_asker_117 : decode cX8_asker 117 = .ok (.isub, 1) := by decide +kernel
theorem dX8_asker_118 : decode cX8_asker 118 = .ok (.ireturn, 1) := by decide +kernel
theorem dX8_told_0 : decode cX8_told 0 = .ok (.iload_n 2, 1) := by decide +kernel
theorem dX8_told_1 : decode cX8_told 1 = .ok (.i2l, 1) := by decide +kernel
theorem dX8_told_2 : decode cX8_told 2 = .ok (.lconst 0, 1) := by decide +kernel
theorem dX8_told_3 : decode cX8_told 3 = .ok (.ldc2_w 113, 3) := by decide +kernel
theorem dX8_told_6 : decode cX8_told 6 = .ok (.invokestatic 77, 3) := by decide +kernel
theorem dX8_told_9 : decode cX8_told 9 = .ok (.ifCond .eq 31, 3) := by decide +kernel
theorem dX8_told_12 : decode cX8_told 12 = .ok (.iload_n 2, 1) := by decide +kernel
theorem dX8_told_13 : decode cX8_told 13 = .ok (.ifCond .le 30, 3) := by decide +kernel
theorem dX8_told_16 : decode cX8_told 16 = .ok (.iload_n 2, 1) := by decide +kernel
theorem dX8_told_17 : decode cX8_told 17 = .ok (.bipush 7, 2) := by decide +kernel
theorem dX8_told_19 : decode cX8_told 19 = .ok (.if_icmp .ne 13, 3) := by decide +kernel
theorem dX8_told_22 : decode cX8_told 22 = .ok (.iload_n 1, 1) := by decide +kernel
theorem dX8_told_23 : decode cX8_told 23 = .ok (.invokestatic 83, 3) := by decide +kernel
theorem dX8_told_26 : decode cX8_told 26 = .ok (.ifCond .ne 17, 3) := by decide +kernel
theorem dX8_told_29 : decode cX8_told 29 = .ok (.goto 11, 3) := by decide +kernel
theorem dX8_told_32 : decode cX8_told 32 = .ok (.aload_n 0, 1) := by decide +kernel
theorem dX8_told_33 : decode cX8_told 33 = .ok (.iload_n 1, 1) := by decide +kernel
theorem dX8_told_34 : decode cX8_told 34 = .ok (.invokevirtual 89, 3) := by decide +kernel
theorem dX8_told_37 : decode cX8_told 37 = .ok (.ifCond .ne 6, 3) := by decide +kernel
theorem dX8_told_40 : decode cX8_told 40 = .ok (.bipush (-2), 2) := by decide +kernel
theorem dX8_told_42 : decode cX8_told 42 = .ok (.ireturn, 1) := by decide +kernel
theorem dX8_told_43 : decode cX8_told 43 = .ok (.iload_n 2, 1) := by decide +kernel
theorem dX8_told_44 : decode cX8_told 44 = .ok (.bipush 6, 2) := by decide +kernel
theorem dX8_told_46 : decode cX8_told 46 = .ok (.if_icmp .ge 41, 3) := by decide +kernel
theorem dX8_told_49 : decode cX8_told 49 = .ok (.iload_n 2, 1) := by decide +kernel
theorem dX8_told_50 : decode cX8_told 50 = .ok (.ifCond .ne 10, 3) := by decide +kernel
theorem dX8_told_53 : decode cX8_told 53 = .ok (.aload_n 0, 1) := by decide +kernel
theorem dX8_told_54 : decode cX8_told 54 = .ok (.getfield 103, 3) := by decide +kernel
theorem dX8_told_57 : decode cX8_told 57 = .ok (.goto 29, 3) := by decide +kernel
theorem dX8_told_60 : decode cX8_told 60 = .ok (.iload_n 2, 1) := by decide +kernel
theorem dX8_told_61 : decode cX8_told 61 = .ok (.iconst 5, 1) := by decide +kernel
theorem dX8_told_62 : decode cX8_told 62 = .ok (.if_icmp .ge 18, 3) := by decide +kernel
theorem dX8_told_65 : decode cX8_told 65 = .ok (.aload_n 0, 1) := by decide +kernel
theorem dX8_told_66 : decode cX8_told 66 = .ok (.getfield 29, 3) := by decide +kernel
theorem dX8_told_69 : decode cX8_told 69 = .ok (.iconst 4, 1) := by decide +kernel
theorem dX8_told_70 : decode cX8_told 70 = .ok (.iload_n 1, 1) := by decide +kernel
theorem dX8_told_71 : decode cX8_told 71 = .ok (.imul, 1) := by decide +kernel
theorem dX8_told_72 : decode cX8_told 72 = .ok (.iload_n 2, 1) := by decide +kernel
theorem dX8_told_73 : decode cX8_told 73 = .ok (.iadd, 1) := by decide +kernel
theorem dX8_told_74 : decode cX8_told 74 = .ok (.iconst 1, 1) := by decide +kernel
theorem dX8_told_75 : decode cX8_told 75 = .ok (.isub, 1) := by decide +kernel
theorem dX8_told_76 : decode cX8_told 76 = .ok (.iaload, 1) := by decide +kernel
theorem dX8_told_77 : decode cX8_told 77 = .ok (.goto 9, 3) := by decide +kernel
theorem dX8_told_80 : decode cX8_told 80 = .ok (.aload_n 0, 1) := by decide +kernel
theorem dX8_told_81 : decode cX8_told 81 = .ok (.getfield 26, 3) := by decide +kernel
theorem dX8_told_84 : decode cX8_told 84 = .ok (.iload_n 1, 1) := by decide +kernel
theorem dX8_told_85 : decode cX8_told 85 = .ok (.iaload, 1) := by decide +kernel
theorem dX8_told_86 : decode cX8_told 86 = .ok (.ireturn, 1) := by decide +kernel
theorem dX8_told_87 : decode cX8_told 87 = .ok (.iload_n 2, 1) := by decide +kernel
theorem dX8_told_88 : decode cX8_told 88 = .ok (.bipush 6, 2) := by decide +kernel
theorem dX8_told_90 : decode cX8_told 90 = .ok (.if_icmp .ne 11, 3) := by decide +kernel
theorem dX8_told_93 : decode cX8_told 93 = .ok (.aload_n 0, 1) := by decide +kernel
theorem dX8_told_94 : decode cX8_told 94 = .ok (.iload_n 1, 1) := by decide +kernel
theorem dX8_told_95 : decode cX8_told 95 = .ok (.invokevirtual 115, 3) := by decide +kernel
theorem dX8_told_98 : decode cX8_told 98 = .ok (.goto 9, 3) := by decide +kernel
theorem dX8_told_101 : decode cX8_told 101 = .ok (.aload_n 0, 1) := by decide +kernel
theorem dX8_told_102 : decode cX8_told 102 = .ok (.getfield 23, 3) := by decide +kernel
theorem dX8_told_105 : decode cX8_told 105 = .ok (.iload_n 1, 1) := by decide +kernel
theorem dX8_told_106 : decode cX8_told 106 = .ok (.iaload, 1) := by decide +kernel
theorem dX8_told_107 : decode cX8_told 107 = .ok (.ireturn, 1) := by decide +kernel
theorem dX8_feed_0 : decode cX8_feed 0 = .ok (.iload_n 1, 1) := by decide +kernel
theorem dX8_feed_1 : decode cX8_feed 1 = .ok (.i2l, 1) := by decide +kernel
theorem dX8_feed_2 : decode cX8_feed 2 = .ok (.lconst 0, 1) := by decide +kernel
theorem dX8_feed_3 : decode cX8_feed 3 = .ok (.ldc2_w 118, 3) := by decide +kernel
theorem dX8_feed_6 : decode cX8_feed 6 = .ok (.invokestatic 77, 3) := by decide +kernel
theorem dX8_feed_9 : decode cX8_feed 9 = .ok (.ifCond .ne 6, 3) := by decide +kernel
theorem dX8_feed_12 : decode cX8_feed 12 = .ok (.bipush (-2), 2) := by decide +kernel
theorem dX8_feed_14 : decode cX8_feed 14 = .ok (.ireturn, 1) := by decide +kernel
theorem dX8_feed_15 : decode cX8_feed 15 = .ok (.aload_n 0, 1) := by decide +kernel
theorem dX8_feed_16 : decode cX8_feed 16 = .ok (.getfield 120, 3) := by decide +kernel
theorem dX8_feed_19 : decode cX8_feed 19 = .ok (.sipush 160, 3) := by decide +kernel
theorem dX8_feed_22 : decode cX8_feed 22 = .ok (.if_icmp .ne 6, 3) := by decide +kernel
theorem dX8_feed_25 : decode cX8_feed 25 = .ok (.bipush (-4), 2) := by decide +kernel
theorem dX8_feed_27 : decode cX8_feed 27 = .ok (.ireturn, 1) := by decide +kernel
theorem dX8_feed_28 : decode cX8_feed 28 = .ok (.aload_n 0, 1) := by decide +kernel
theorem dX8_feed_29 : decode cX8_feed 29 = .ok (.getfield 20, 3) := by decide +kernel
theorem dX8_feed_32 : decode cX8_feed 32 = .ok (.aload_n 0, 1) := by decide +kernel
theorem dX8_feed_33 : decode cX8_feed 33 = .ok (.getfield 120, 3) := by decide +kernel
theorem dX8_feed_36 : decode cX8_feed 36 = .ok (.iload_n 1, 1) := by decide +kernel
theorem dX8_feed_37 : decode cX8_feed 37 = .ok (.iastore, 1) := by decide +kernel
theorem dX8_feed_38 : decode cX8_feed 38 = .ok (.aload_n 0, 1) := by decide +kernel
theorem dX8_feed_39 : decode cX8_feed 39 = .ok (.dup, 1) := by decide +kernel
theorem dX8_feed_40 : decode cX8_feed 40 = .ok (.getfield 120, 3) := by decide +kernel
theorem dX8_feed_43 : decode cX8_feed 43 = .ok (.iconst 1, 1) := by decide +kernel
theorem dX8_feed_44 : decode cX8_feed 44 = .ok (.iadd, 1) := by decide +kernel
theorem dX8_feed_45 : decode cX8_feed 45 = .ok (.putfield 120, 3) := by decide +kernel
theorem dX8_feed_48 : decode cX8_feed 48 = .ok (.aload_n 0, 1) := by decide +kernel
theorem dX8_feed_49 : decode cX8_feed 49 = .ok (.getfield 120, 3) := by decide +kernel
theorem dX8_feed_52 : decode cX8_feed 52 = .ok (.ireturn, 1) := by decide +kernel
theorem dX8_byteAt_0 : decode cX8_byteAt 0 = .ok (.iload_n 1, 1) := by decide +kernel
theorem dX8_byteAt_1 : decode cX8_byteAt 1 = .ok (.aload_n 0, 1) := by decide +kernel
theorem dX8_byteAt_2 : decode cX8_byteAt 2 = .ok (.getfield 123, 3) := by decide +kernel
theorem dX8_byteAt_5 : decode cX8_byteAt 5 = .ok (.if_icmp .ge 17, 3) := by decide +kernel
theorem dX8_byteAt_8 : decode cX8_byteAt 8 = .ok (.aload_n 0, 1) := by decide +kernel
theorem dX8_byteAt_9 : decode cX8_byteAt 9 = .ok (.getfield 13, 3) := by decide +kernel
theorem dX8_byteAt_12 : decode cX8_byteAt 12 = .ok (.aload_n 0, 1) := by decide +kernel
theorem dX8_byteAt_13 : decode cX8_byteAt 13 = .ok (.getfield 126, 3) := by decide +kernel
theorem dX8_byteAt_16 : decode cX8_byteAt 16 = .ok (.iload_n 1, 1) := by decide +kernel
theorem dX8_byteAt_17 : decode cX8_byteAt 17 = .ok (.iadd, 1) := by decide +kernel
theorem dX8_byteAt_18 : decode cX8_byteAt 18 = .ok (.iaload, 1) := by decide +kernel
theorem dX8_byteAt_19 : decode cX8_byteAt 19 = .ok (.goto 4, 3) := by decide +kernel
theorem dX8_byteAt_22 : decode cX8_byteAt 22 = .ok (.iconst (-1), 1) := by decide +kernel
theorem dX8_byteAt_23 : decode cX8_byteAt 23 = .ok (.ireturn, 1) := by decide +kernel
theorem dX8_next_0 : decode cX8_next 0 = .ok (.aload_n 0, 1) := by decide +kernel
theorem dX8_next_1 : decode cX8_next 1 = .ok (.aload_n 0, 1) := by decide +kernel
theorem dX8_next_2 : decode cX8_next 2 = .ok (.getfield 129, 3) := by decide +kernel
theorem dX8_next_5 : decode cX8_next 5 = .ok (.invokevirtual 132, 3) := by decide +kernel
theorem dX8_next_8 : decode cX8_next 8 = .ok (.bipush 32, 2) := by decide +kernel
theorem dX8_next_10 : decode cX8_next 10 = .ok (.if_icmp .eq 16, 3) := by decide +kernel
theorem dX8_next_13 : decode cX8_next 13 = .ok (.aload_n 0, 1) := by decide +kernel
theorem dX8_next_14 : decode cX8_next 14 = .ok (.aload_n 0, 1) := by decide +kernel
theorem dX8_next_15 : decode cX8_next 15 = .ok (.getfield 129, 3) := by decide +kernel
theorem dX8_next_18 : decode cX8_next 18 = .ok (.invokevirtual 132, 3) := by decide +kernel
theorem dX8_next_21 : decode cX8_next 21 = .ok (.bipush 10, 2) := by decide +kernel
theorem dX8_next_23 : decode cX8_next 23 = .ok (.if_icmp .ne 16, 3) := by decide +kernel
theorem dX8_next_26 : decode cX8_next 26 = .ok (.aload_n 0, 1) := by decide +kernel
theorem dX8_next_27 : decode cX8_next 27 = .ok (.dup, 1) := by decide +kernel
theorem dX8_next_28 : decode cX8_next 28 = .ok (.getfield 129, 3) := by decide +kernel
theorem dX8_next_31 : decode cX8_next 31 = .ok (.iconst 1, 1) := by decide +kernel
theorem dX8_next_32 : decode cX8_next 32 = .ok (.iadd, 1) := by decide +kernel
theorem dX8_next_33 : decode cX8_next 33 = .ok (.putfield 129, 3) := by decide +kernel
theorem dX8_next_36 : decode cX8_next 36 = .ok (.goto (-36), 3) := by decide +kernel
theorem dX8_next_39 : decode cX8_next 39 = .ok (.aload_n 0, 1) := by decide +kernel
theorem dX8_next_40 : decode cX8_next 40 = .ok (.aload_n 0, 1) := by decide +kernel
theorem dX8_next_41 : decode cX8_next 41 = .ok (.getfield 129, 3) := by decide +kernel
theorem dX8_next_44 : decode cX8_next 44 = .ok (.putfield 135, 3) := by decide +kernel
theorem dX8_next_47 : decode cX8_next 47 = .ok (.aload_n 0, 1) := by decide +kernel
theorem dX8_next_48 : decode cX8_next 48 = .ok (.aload_n 0, 1) := by decide +kernel
theorem dX8_next_49 : decode cX8_next 49 = .ok (.getfield 129, 3) := by decide +kernel
theorem dX8_next_52 : decode cX8_next 52 = .ok (.invokevirtual 132, 3) := by decide +kernel
theorem dX8_next_55 : decode cX8_next 55 = .ok (.istore_n 1, 1) := by decide +kernel
theorem dX8_next_56 : decode cX8_next 56 = .ok (.aload_n 0, 1) := by decide +kernel
theorem dX8_next_57 : decode cX8_next 57 = .ok (.iconst 4, 1) := by decide +kernel
theorem dX8_next_58 : decode cX8_next 58 = .ok (.putfield 138, 3) := by decide +kernel
theorem dX8_next_61 : decode cX8_next 61 = .ok (.iload_n 1, 1) := by decide +kernel
theorem dX8_next_62 : decode cX8_next 62 = .ok (.ifCond .ge 19, 3) := by decide +kernel
theorem dX8_next_65 : decode cX8_next 65 = .ok (.aload_n 0, 1) := by decide +kernel
theorem dX8_next_66 : decode cX8_next 66 = .ok (.iconst 0, 1) := by decide +kernel
theorem dX8_next_67 : decode cX8_next 67 = .ok (.putfield 138, 3) := by decide +kernel
theorem dX8_next_70 : decode cX8_next 70 = .ok (.aload_n 0, 1) := by decide +kernel
theorem dX8_next_71 : decode cX8_next 71 = .ok (.aload_n 0, 1) := by decide +kernel
theorem dX8_next_72 : decode cX8_next 72 = .ok (.getfield 123, 3) := by decide +kernel
theorem dX8_next_75 : decode cX8_next 75 = .ok (.putfield 135, 3) := by decide +kernel
theorem dX8_next_78 : decode cX8_next 78 = .ok (.goto 243, 3) := by decide +kernel
theorem dX8_next_81 : decode cX8_next 81 = .ok (.iload_n 1, 1) := by decide +kernel
theorem dX8_next_82 : decode cX8_next 82 = .ok (.i2l, 1) := by decide +kernel
theorem dX8_next_83 : decode cX8_next 83 = .ok (.ldc2_w 141, 3) := by decide +kernel
theorem dX8_next_86 : decode cX8_next 86 = .ok (.ldc2_w 143, 3) := by decide +kernel
theorem dX8_next_89 : decode cX8_next 89 = .ok (.invokestatic 77, 3) := by decide +kernel
theorem dX8_next_92 : decode cX8_next 92 = .ok (.ifCond .eq 42, 3) := by decide +kernel
theorem dX8_next_95 : decode cX8_next 95 = .ok (.aload_n 0, 1) := by decide +kernel
theorem dX8_next_96 : decode cX8_next 96 = .ok (.iconst 1, 1) := by decide +kernel
theorem dX8_next_97 : decode cX8_next 97 = .ok (.putfield 138, 3) := by decide +kernel
theorem dX8_next_100 : decode cX8_next 100 = .ok (.aload_n 0, 1) := by decide +kernel
theorem dX8_next_101 : decode cX8_next 101 = .ok (.aload_n 0, 1) := by decide +kernel
theorem dX8_next_102 : decode cX8_next 102 = .ok (.getfield 129, 3) := by decide +kernel
theorem dX8_next_105 : decode cX8_next 105 = .ok (.invokevirtual 132, 3) := by decide +kernel
theorem dX8_next_108 : decode cX8_next 108 = .ok (.i2l, 1) := by decide +kernel
theorem dX8_next_109 : decode cX8_next 109 = .ok (.ldc2_w 141, 3) := by decide +kernel
theorem dX8_next_112 : decode cX8_next 112 = .ok (.ldc2_w 143, 3) := by decide +kernel
theorem dX8_next_115 : decode cX8_next 115 = .ok (.invokestatic 77, 3) := by decide +kernel
theorem dX8_next_118 : decode cX8_next 118 = .ok (.ifCond .eq 203, 3) := by decide +kernel
theorem dX8_next_121 : decode cX8_next 121 = .ok (.aload_n 0, 1) := by decide +kernel
theorem dX8_next_122 : decode cX8_next 122 = .ok (.dup, 1) := by decide +kernel
theorem dX8_next_123 : decode cX8_next 123 = .ok (.getfield 129, 3) := by decide +kernel
theorem dX8_next_126 : decode cX8_next 126 = .ok (.iconst 1, 1) := by decide +kernel
theorem dX8_next_127 : decode cX8_next 127 = .ok (.iadd, 1) := by decide +kernel
theorem dX8_next_128 : decode cX8_next 128 = .ok (.putfield 129, 3) := by decide +kernel
theorem dX8_next_131 : decode cX8_next 131 = .ok (.goto (-31), 3) := by decide +kernel
theorem dX8_next_134 : decode cX8_next 134 = .ok (.iload_n 1, 1) := by decide +kernel
theorem dX8_next_135 : decode cX8_next 135 = .ok (.i2l, 1) := by decide +kernel
theorem dX8_next_136 : decode cX8_next 136 = .ok (.ldc2_w 145, 3) := by decide +kernel
theorem dX8_next_139 : decode cX8_next 139 = .ok (.ldc2_w 147, 3) := by decide +kernel
theorem dX8_next_142 : decode cX8_next 142 = .ok (.invokestatic 77, 3) := by decide +kernel
theorem dX8_next_145 : decode cX8_next 145 = .ok (.ifCond .eq 107, 3) := by decide +kernel
theorem dX8_next_148 : decode cX8_next 148 = .ok (.aload_n 0, 1) := by decide +kernel
theorem dX8_next_149 : decode cX8_next 149 = .ok (.iconst 2, 1) := by decide +kernel
theorem dX8_next_150 : decode cX8_next 150 = .ok (.putfield 138, 3) := by decide +kernel
theorem dX8_next_153 : decode cX8_next 153 = .ok (.aload_n 0, 1) := by decide +kernel
theorem dX8_next_154 : decode cX8_next 154 = .ok (.lconst 0, 1) := by decide +kernel
theorem dX8_next_155 : decode cX8_next 155 = .ok (.putfield 149, 3) := by decide +kernel
theorem dX8_next_158 : decode cX8_next 158 = .ok (.iconst 0, 1) := by decide +kernel
theorem dX8_next_159 : decode cX8_next 159 = .ok (.istore_n 2, 1) := by decide +kernel
theorem dX8_next_160 : decode cX8_next 160 = .ok (.aload_n 0, 1) := by decide +kernel
theorem dX8_next_161 : decode cX8_next 161 = .ok (.aload_n 0, 1) := by decide +kernel
theorem dX8_next_162 : decode cX8_next 162 = .ok (.getfield 129, 3) := by decide +kernel
theorem dX8_next_165 : decode cX8_next 165 = .ok (.invokevirtual 132, 3) := by decide +kernel
theorem dX8_next_168 : decode cX8_next 168 = .ok (.i2l, 1) := by decide +kernel
theorem dX8_next_169 : decode cX8_next 169 = .ok (.ldc2_w 145, 3) := by decide +kernel
theorem dX8_next_172 : decode cX8_next 172 = .ok (.ldc2_w 147, 3) := by decide +kernel
theorem dX8_next_175 : decode cX8_next 175 = .ok (.invokestatic 77, 3) := by decide +kernel
theorem dX8_next_178 : decode cX8_next 178 = .ok (.ifCond .eq 57, 3) := by decide +kernel
theorem dX8_next_181 : decode cX8_next 181 = .ok (.aload_n 0, 1) := by decide +kernel
theorem dX8_next_182 : decode cX8_next 182 = .ok (.iload_n 2, 1) := by decide +kernel
theorem dX8_next_183 : decode cX8_next 183 = .ok (.iconst 4, 1) := by decide +kernel
theorem dX8_next_184 : decode cX8_next 184 = .ok (.if_icmp .ge 28, 3) := by decide +kernel
theorem dX8_next_187 : decode cX8_next 187 = .ok (.ldc2_w 153, 3) := by decide +kernel
theorem dX8_next_190 : decode cX8_next 190 = .ok (.aload_n 0, 1) := by decide +kernel
theorem dX8_next_191 : decode cX8_next 191 = .ok (.getfield 149, 3) := by decide +kernel
theorem dX8_next_194 : decode cX8_next 194 = .ok (.lmul, 1) := by decide +kernel
theorem dX8_next_195 : decode cX8_next 195 = .ok (.aload_n 0, 1) := by decide +kernel
theorem dX8_next_196 : decode cX8_next 196 = .ok (.aload_n 0, 1) := by decide +kernel
theorem dX8_next_197 : decode cX8_next 197 = .ok (.getfield 129, 3) := by decide +kernel
theorem dX8_next_200 : decode cX8_next 200 = .ok (.invokevirtual 132, 3) := by decide +kernel
theorem dX8_next_203 : decode cX8_next 203 = .ok (.i2l, 1) := by decide +kernel
theorem dX8_next_204 : decode cX8_next 204 = .ok (.ladd, 1) := by decide +kernel
theorem dX8_next_205 : decode cX8_next 205 = .ok (.ldc2_w 145, 3) := by decide +kernel
theorem dX8_next_208 : decode cX8_next 208 = .ok (.lsub, 1) := by decide +kernel
theorem dX8_next_209 : decode cX8_next 209 = .ok (.goto 7, 3) := by decide +kernel
theorem dX8_next_212 : decode cX8_next 212 = .ok (.aload_n 0, 1) := by decide +kernel
theorem dX8_next_213 : decode cX8_next 213 = .ok (.getfield 149, 3) := by decide +kernel
theorem dX8_next_216 : decode cX8_next 216 = .ok (.putfield 149, 3) := by decide +kernel
theorem dX8_next_219 : decode cX8_next 219 = .ok (.iinc 2 1, 3) := by decide +kernel
theorem dX8_next_222 : decode cX8_next 222 = .ok (.aload_n 0, 1) := by decide +kernel
theorem dX8_next_223 : decode cX8_next 223 = .ok (.dup, 1) := by decide +kernel
theorem dX8_next_224 : decode cX8_next 224 = .ok (.getfield 129, 3) := by decide +kernel
theorem dX8_next_227 : decode cX8_next 227 = .ok (.iconst 1, 1) := by decide +kernel
theorem dX8_next_228 : decode cX8_next 228 = .ok (.iadd, 1) := by decide +kernel
theorem dX8_next_229 : decode cX8_next 229 = .ok (.putfield 129, 3) := by decide +kernel
theorem dX8_next_232 : decode cX8_next 232 = .ok (.goto (-72), 3) := by decide +kernel
theorem dX8_next_235 : decode cX8_next 235 = .ok (.aload_n 0, 1) := by decide +kernel
theorem dX8_next_236 : decode cX8_next 236 = .ok (.iload_n 2, 1) := by decide +kernel
theorem dX8_next_237 : decode cX8_next 237 = .ok (.iconst 4, 1) := by decide +kernel
theorem dX8_next_238 : decode cX8_next 238 = .ok (.if_icmp .le 7, 3) := by decide +kernel
theorem dX8_next_241 : decode cX8_next 241 = .ok (.iconst 4, 1) := by decide +kernel
theorem dX8_next_242 : decode cX8_next 242 = .ok (.goto 4, 3) := by decide +kernel
theorem dX8_next_245 : decode cX8_next 245 = .ok (.iconst 2, 1) := by decide +kernel
theorem dX8_next_246 : decode cX8_next 246 = .ok (.putfield 138, 3) := by decide +kernel
theorem dX8_next_249 : decode cX8_next 249 = .ok (.goto 72, 3) := by decide +kernel
theorem dX8_next_252 : decode cX8_next 252 = .ok (.iload_n 1, 1) := by decide +kernel
theorem dX8_next_253 : decode cX8_next 253 = .ok (.bipush 40, 2) := by decide +kernel
theorem dX8_next_255 : decode cX8_next 255 = .ok (.if_icmp .eq 45, 3) := by decide +kernel
theorem dX8_next_258 : decode cX8_next 258 = .ok (.iload_n 1, 1) := by decide +kernel
theorem dX8_next_259 : decode cX8_next 259 = .ok (.bipush 41, 2) := by decide +kernel
theorem dX8_next_261 : decode cX8_next 261 = .ok (.if_icmp .eq 39, 3) := by decide +kernel
theorem dX8_next_264 : decode cX8_next 264 = .ok (.iload_n 1, 1) := by decide +kernel
theorem dX8_next_265 : decode cX8_next 265 = .ok (.bipush 59, 2) := by decide +kernel
theorem dX8_next_267 : decode cX8_next 267 = .ok (.if_icmp .eq 33, 3) := by decide +kernel
theorem dX8_next_270 : decode cX8_next 270 = .ok (.iload_n 1, 1) := by decide +kernel
theorem dX8_next_271 : decode cX8_next 271 = .ok (.bipush 43, 2) := by decide +kernel
theorem dX8_next_273 : decode cX8_next 273 = .ok (.if_icmp .eq 27, 3) := by decide +kernel
theorem dX8_next_276 : decode cX8_next 276 = .ok (.iload_n 1, 1) := by decide +kernel
theorem dX8_next_277 : decode cX8_next 277 = .ok (.bipush 45, 2) := by decide +kernel
theorem dX8_next_279 : decode cX8_next 279 = .ok (.if_icmp .eq 21, 3) := by decide +kernel
theorem dX8_next_282 : decode cX8_next 282 = .ok (.iload_n 1, 1) := by decide +kernel
theorem dX8_next_283 : decode cX8_next 283 = .ok (.bipush 42, 2) := by decide +kernel
theorem dX8_next_285 : decode cX8_next 285 = .ok (.if_icmp .eq 15, 3) := by decide +kernel
theorem dX8_next_288 : decode cX8_next 288 = .ok (.iload_n 1, 1) := by decide +kernel
theorem dX8_next_289 : decode cX8_next 289 = .ok (.bipush 60, 2) := by decide +kernel
theorem dX8_next_291 : decode cX8_next 291 = .ok (.if_icmp .eq 9, 3) := by decide +kernel
theorem dX8_next_294 : decode cX8_next 294 = .ok (.iload_n 1, 1) := by decide +kernel
theorem dX8_next_295 : decode cX8_next 295 = .ok (.bipush 61, 2) := by decide +kernel
theorem dX8_next_297 : decode cX8_next 297 = .ok (.if_icmp .ne 24, 3) := by decide +kernel
theorem dX8_next_300 : decode cX8_next 300 = .ok (.aload_n 0, 1) := by decide +kernel
theorem dX8_next_301 : decode cX8_next 301 = .ok (.iconst 3, 1) := by decide +kernel
theorem dX8_next_302 : decode cX8_next 302 = .ok (.putfield 138, 3) := by decide +kernel
theorem dX8_next_305 : decode cX8_next 305 = .ok (.aload_n 0, 1) := by decide +kernel
theorem dX8_next_306 : decode cX8_next 306 = .ok (.iload_n 1, 1) := by decide +kernel
theorem dX8_next_307 : decode cX8_next 307 = .ok (.i2l, 1) := by decide +kernel
theorem dX8_next_308 : decode cX8_next 308 = .ok (.putfield 149, 3) := by decide +kernel
theorem dX8_next_311 : decode cX8_next 311 = .ok (.aload_n 0, 1) := by decide +kernel
theorem dX8_next_312 : decode cX8_next 312 = .ok (.dup, 1) := by decide +kernel
theorem dX8_next_313 : decode cX8_next 313 = .ok (.getfield 129, 3) := by decide +kernel
theorem dX8_next_316 : decode cX8_next 316 = .ok (.iconst 1, 1) := by decide +kernel
theorem dX8_next_317 : decode cX8_next 317 = .ok (.iadd, 1) := by decide +kernel
theorem dX8_next_318 : decode cX8_next 318 = .ok (.putfield 129, 3) := by decide +kernel
theorem dX8_next_321 : decode cX8_next 321 = .ok (.return_, 1) := by decide +kernel
theorem dX8_fail_0 : decode cX8_fail 0 = .ok (.aload_n 0, 1) := by decide +kernel
theorem dX8_fail_1 : decode cX8_fail 1 = .ok (.getfield 155, 3) := by decide +kernel
theorem dX8_fail_4 : decode cX8_fail 4 = .ok (.ifCond .ne 16, 3) := by decide +kernel
theorem dX8_fail_7 : decode cX8_fail 7 = .ok (.aload_n 0, 1) := by decide +kernel
theorem dX8_fail_8 : decode cX8_fail 8 = .ok (.iconst 1, 1) := by decide +kernel
theorem dX8_fail_9 : decode cX8_fail 9 = .ok (.putfield 155, 3) := by decide +kernel
theorem dX8_fail_12 : decode cX8_fail 12 = .ok (.aload_n 0, 1) := by decide +kernel
theorem dX8_fail_13 : decode cX8_fail 13 = .ok (.aload_n 0, 1) := by decide +kernel
theorem dX8_fail_14 : decode cX8_fail 14 = .ok (.getfield 135, 3) := by decide +kernel
theorem dX8_fail_17 : decode cX8_fail 17 = .ok (.putfield 159, 3) := by decide +kernel
theorem dX8_fail_20 : decode cX8_fail 20 = .ok (.return_, 1) := by decide +kernel
theorem dX8_isLetter_0 : decode cX8_isLetter 0 = .ok (.aload_n 0, 1) := by decide +kernel
theorem dX8_isLetter_1 : decode cX8_isLetter 1 = .ok (.getfield 135, 3) := by decide +kernel
theorem dX8_isLetter_4 : decode cX8_isLetter 4 = .ok (.iload_n 1, 1) := by decide +kernel
theorem dX8_isLetter_5 : decode cX8_isLetter 5 = .ok (.iadd, 1) := by decide +kernel
theorem dX8_isLetter_6 : decode cX8_isLetter 6 = .ok (.aload_n 0, 1) := by decide +kernel
theorem dX8_isLetter_7 : decode cX8_isLetter 7 = .ok (.getfield 129, 3) := by decide +kernel
theorem dX8_isLetter_10 : decode cX8_isLetter 10 = .ok (.if_icmp .ge 25, 3) := by decide +kernel
theorem dX8_isLetter_13 : decode cX8_isLetter 13 = .ok (.aload_n 0, 1) := by decide +kernel
theorem dX8_isLetter_14 : decode cX8_isLetter 14 = .ok (.aload_n 0, 1) := by decide +kernel
theorem dX8_isLetter_15 : decode cX8_isLetter 15 = .ok (.getfield 135, 3) := by decide +kernel
theorem dX8_isLetter_18 : decode cX8_isLetter 18 = .ok (.iload_n 1, 1) := by decide +kernel
theorem dX8_isLetter_19 : decode cX8_isLetter 19 = .ok (.iadd, 1) := by decide +kernel
theorem dX8_isLetter_20 : decode cX8_isLetter 20 = .ok (.invokevirtual 132, 3) := by decide +kernel
theorem dX8_isLetter_23 : decode cX8_isLetter 23 = .ok (.iload_n 2, 1) := by decide +kernel
theorem dX8_isLetter_24 : decode cX8_isLetter 24 = .ok (.if_icmp .ne 7, 3) := by decide +kernel
theorem dX8_isLetter_27 : decode cX8_isLetter 27 = .ok (.iconst 1, 1) := by decide +kernel
theorem dX8_isLetter_28 : decode cX8_isLetter 28 = .ok (.goto 16, 3) := by decide +kernel
theorem dX8_isLetter_31 : decode cX8_isLetter 31 = .ok (.iconst 0, 1) := by decide +kernel
theorem dX8_isLetter_32 : decode cX8_isLetter 32 = .ok (.goto 12, 3) := by decide +kernel
theorem dX8_isLetter_35 : decode cX8_isLetter 35 = .ok (.iload_n 2, 1) := by decide +kernel
theorem dX8_isLetter_36 : decode cX8_isLetter 36 = .ok (.ifCond .ne 7, 3) := by decide +kernel
theorem dX8_isLetter_39 : decode cX8_isLetter 39 = .ok (.iconst 1, 1) := by decide +kernel
theorem dX8_isLetter_40 : decode cX8_isLetter 40 = .ok (.goto 4, 3) := by decide +kernel
theorem dX8_isLetter_43 : decode cX8_isLetter 43 = .ok (.iconst 0, 1) := by decide +kernel
theorem dX8_isLetter_44 : decode cX8_isLetter 44 = .ok (.ireturn, 1) := by decide +kernel
theorem dX8_isWord_0 : decode cX8_isWord 0 = .ok (.aload_n 0, 1) := by decide +kernel
theorem dX8_isWord_1 : decode cX8_isWord 1 = .ok (.getfield 155, 3) := by decide +kernel
theorem dX8_isWord_4 : decode cX8_isWord 4 = .ok (.ifCond .ne 108, 3) := by decide +kernel
theorem dX8_isWord_7 : decode cX8_isWord 7 = .ok (.aload_n 0, 1) := by decide +kernel
theorem dX8_isWord_8 : decode cX8_isWord 8 = .ok (.getfield 138, 3) := by decide +kernel
theorem dX8_isWord_11 : decode cX8_isWord 11 = .ok (.iconst 1, 1) := by decide +kernel
theorem dX8_isWord_12 : decode cX8_isWord 12 = .ok (.if_icmp .ne 100, 3) := by decide +kernel
theorem dX8_isWord_15 : decode cX8_isWord 15 = .ok (.aload_n 0, 1) := by decide +kernel
theorem dX8_isWord_16 : decode cX8_isWord 16 = .ok (.getfield 129, 3) := by decide +kernel
theorem dX8_isWord_19 : decode cX8_isWord 19 = .ok (.aload_n 0, 1) := by decide +kernel
theorem dX8_isWord_20 : decode cX8_isWord 20 = .ok (.getfield 135, 3) := by decide +kernel
theorem dX8_isWord_23 : decode cX8_isWord 23 = .ok (.bipush 8, 2) := by decide +kernel
theorem dX8_isWord_25 : decode cX8_isWord 25 = .ok (.iadd, 1) := by decide +kernel
theorem dX8_isWord_26 : decode cX8_isWord 26 = .ok (.if_icmp .gt 86, 3) := by decide +kernel
theorem dX8_isWord_29 : decode cX8_isWord 29 = .ok (.aload_n 0, 1) := by decide +kernel
theorem dX8_isWord_30 : decode cX8_isWord 30 = .ok (.iconst 0, 1) := by decide +kernel
theorem dX8_isWord_31 : decode cX8_isWord 31 = .ok (.iload_n 1, 1) := by decide +kernel
theorem dX8_isWord_32 : decode cX8_isWord 32 = .ok (.invokevirtual 162, 3) := by decide +kernel
theorem dX8_isWord_35 : decode cX8_isWord 35 = .ok (.ifCond .eq 77, 3) := by decide +kernel
theorem dX8_isWord_38 : decode cX8_isWord 38 = .ok (.aload_n 0, 1) := by decide +kernel
theorem dX8_isWord_39 : decode cX8_isWord 39 = .ok (.iconst 1, 1) := by decide +kernel
theorem dX8_isWord_40 : decode cX8_isWord 40 = .ok (.iload_n 2, 1) := by decide +kernel
theorem dX8_isWord_41 : decode cX8_isWord 41 = .ok (.invokevirtual 162, 3) := by decide +kernel
theorem dX8_isWord_44 : decode cX8_isWord 44 = .ok (.ifCond .eq 68, 3) := by decide +kernel
theorem dX8_isWord_47 : decode cX8_isWord 47 = .ok (.aload_n 0, 1) := by decide +kernel
theorem dX8_isWord_48 : decode cX8_isWord 48 = .ok (.iconst 2, 1) := by decide +kernel
theorem dX8_isWord_49 : decode cX8_isWord 49 = .ok (.iload_n 3, 1) := by decide +kernel
theorem dX8_isWord_50 : decode cX8_isWord 50 = .ok (.invokevirtual 162, 3) := by decide +kernel
theorem dX8_isWord_53 : decode cX8_isWord 53 = .ok (.ifCond .eq 59, 3) := by decide +kernel
theorem dX8_isWord_56 : decode cX8_isWord 56 = .ok (.aload_n 0, 1) := by decide +kernel
theorem dX8_isWord_57 : decode cX8_isWord 57 = .ok (.iconst 3, 1) := by decide +kernel
theorem dX8_isWord_58 : decode cX8_isWord 58 = .ok (.iload 4, 2) := by decide +kernel
theorem dX8_isWord_60 : decode cX8_isWord 60 = .ok (.invokevirtual 162, 3) := by decide +kernel
theorem dX8_isWord_63 : decode cX8_isWord 63 = .ok (.ifCond .eq 49, 3) := by decide +kernel
theorem dX8_isWord_66 : decode cX8_isWord 66 = .ok (.aload_n 0, 1) := by decide +kernel
theorem dX8_isWord_67 : decode cX8_isWord 67 = .ok (.iconst 4, 1) := by decide +kernel
theorem dX8_isWord_68 : decode cX8_isWord 68 = .ok (.iload 5, 2) := by decide +kernel
theorem dX8_isWord_70 : decode cX8_isWord 70 = .ok (.invokevirtual 162, 3) := by decide +kernel
theorem dX8_isWord_73 : decode cX8_isWord 73 = .ok (.ifCond .eq 39, 3) := by decide +kernel
theorem dX8_isWord_76 : decode cX8_isWord 76 = .ok (.aload_n 0, 1) := by decide +kernel
theorem dX8_isWord_77 : decode cX8_isWord 77 = .ok (.iconst 5, 1) := by decide +kernel
theorem dX8_isWord_78 : decode cX8_isWord 78 = .ok (.iload 6, 2) := by decide +kernel
theorem dX8_isWord_80 : decode cX8_isWord 80 = .ok (.invokevirtual 162, 3) := by decide +kernel
theorem dX8_isWord_83 : decode cX8_isWord 83 = .ok (.ifCond .eq 29, 3) := by decide +kernel
theorem dX8_isWord_86 : decode cX8_isWord 86 = .ok (.aload_n 0, 1) := by decide +kernel
theorem dX8_isWord_87 : decode cX8_isWord 87 = .ok (.bipush 6, 2) := by decide +kernel
theorem dX8_isWord_89 : decode cX8_isWord 89 = .ok (.iload 7, 2) := by decide +kernel
theorem dX8_isWord_91 : decode cX8_isWord 91 = .ok (.invokevirtual 162, 3) := by decide +kernel
theorem dX8_isWord_94 : decode cX8_isWord 94 = .ok (.ifCond .eq 18, 3) := by decide +kernel
theorem dX8_isWord_97 : decode cX8_isWord 97 = .ok (.aload_n 0, 1) := by decide +kernel
theorem dX8_isWord_98 : decode cX8_isWord 98 = .ok (.bipush 7, 2) := by decide +kernel
theorem dX8_isWord_100 : decode cX8_isWord 100 = .ok (.iload 8, 2) := by decide +kernel
theorem dX8_isWord_102 : decode cX8_isWord 102 = .ok (.invokevirtual 162, 3) := by decide +kernel
theorem dX8_isWord_105 : decode cX8_isWord 105 = .ok (.ifCond .eq 7, 3) := by decide +kernel
theorem dX8_isWord_108 : decode cX8_isWord 108 = .ok (.iconst 1, 1) := by decide +kernel
theorem dX8_isWord_109 : decode cX8_isWord 109 = .ok (.goto 4, 3) := by decide +kernel
theorem dX8_isWord_112 : decode cX8_isWord 112 = .ok (.iconst 0, 1) := by decide +kernel
theorem dX8_isWord_113 : decode cX8_isWord 113 = .ok (.ireturn, 1) := by decide +kernel
theorem dX8_isSign_0 : decode cX8_isSign 0 = .ok (.aload_n 0, 1) := by decide +kernel
theorem dX8_isSign_1 : decode cX8_isSign 1 = .ok (.getfield 155, 3) := by decide +kernel
theorem dX8_isSign_4 : decode cX8_isSign 4 = .ok (.ifCond .ne 25, 3) := by decide +kernel
theorem dX8_isSign_7 : decode cX8_isSign 7 = .ok (.aload_n 0, 1) := by decide +kernel
theorem dX8_isSign_8 : decode cX8_isSign 8 = .ok (.getfield 138, 3) := by decide +kernel
theorem dX8_isSign_11 : decode cX8_isSign 11 = .ok (.iconst 3, 1) := by decide +kernel
theorem dX8_isSign_12 : decode cX8_isSign 12 = .ok (.if_icmp .ne 17, 3) := by decide +kernel
theorem dX8_isSign_15 : decode cX8_isSign 15 = .ok (.aload_n 0, 1) := by decide +kernel
theorem dX8_isSign_16 : decode cX8_isSign 16 = .ok (.getfield 149, 3) := by decide +kernel
theorem dX8_isSign_19 : decode cX8_isSign 19 = .ok (.iload_n 1, 1) := by decide +kernel
theorem dX8_isSign_20 : decode cX8_isSign 20 = .ok (.i2l, 1) := by decide +kernel
theorem dX8_isSign_21 : decode cX8_isSign 21 = .ok (.lcmp, 1) := by decide +kernel
theorem dX8_isSign_22 : decode cX8_isSign 22 = .ok (.ifCond .ne 7, 3) := by decide +kernel
theorem dX8_isSign_25 : decode cX8_isSign 25 = .ok (.iconst 1, 1) := by decide +kernel
theorem dX8_isSign_26 : decode cX8_isSign 26 = .ok (.goto 4, 3) := by decide +kernel
theorem dX8_isSign_29 : decode cX8_isSign 29 = .ok (.iconst 0, 1) := by decide +kernel
theorem dX8_isSign_30 : decode cX8_isSign 30 = .ok (.ireturn, 1) := by decide +kernel
theorem dX8_opens_0 : decode cX8_opens 0 = .ok (.aload_n 0, 1) := by decide +kernel
theorem dX8_opens_1 : decode cX8_opens 1 = .ok (.getfield 166, 3) := by decide +kernel
theorem dX8_opens_4 : decode cX8_opens 4 = .ok (.iconst 5, 1) := by decide +kernel
theorem dX8_opens_5 : decode cX8_opens 5 = .ok (.if_icmp .ne 9, 3) := by decide +kernel
theorem dX8_opens_8 : decode cX8_opens 8 = .ok (.aload_n 0, 1) := by decide +kernel
theorem dX8_opens_9 : decode cX8_opens 9 = .ok (.invokevirtual 169, 3) := by decide +kernel
theorem dX8_opens_12 : decode cX8_opens 12 = .ok (.iconst 0, 1) := by decide +kernel
theorem dX8_opens_13 : decode cX8_opens 13 = .ok (.ireturn, 1) := by decide +kernel
theorem dX8_opens_14 : decode cX8_opens 14 = .ok (.aload_n 0, 1) := by decide +kernel
theorem dX8_opens_15 : decode cX8_opens 15 = .ok (.dup, 1) := by decide +kernel
theorem dX8_opens_16 : decode cX8_opens 16 = .ok (.getfield 166, 3) := by decide +kernel
theorem dX8_opens_19 : decode cX8_opens 19 = .ok (.iconst 1, 1) := by decide +kernel
theorem dX8_opens_20 : decode cX8_opens 20 = .ok (.iadd, 1) := by decide +kernel
theorem dX8_opens_21 : decode cX8_opens 21 = .ok (.putfield 166, 3) := by decide +kernel
theorem dX8_opens_24 : decode cX8_opens 24 = .ok (.aload_n 0, 1) := by decide +kernel
theorem dX8_opens_25 : decode cX8_opens 25 = .ok (.invokevirtual 172, 3) := by decide +kernel
theorem dX8_opens_28 : decode cX8_opens 28 = .ok (.iconst 1, 1) := by decide +kernel
theorem dX8_opens_29 : decode cX8_opens 29 = .ok (.ireturn, 1) := by decide +kernel
theorem dX8_name_0 : decode cX8_name 0 = .ok (.aload_n 0, 1) := by decide +kernel
theorem dX8_name_1 : decode cX8_name 1 = .ok (.bipush 116, 2) := by decide +kernel
theorem dX8_name_3 : decode cX8_name 3 = .ok (.bipush 104, 2) := by decide +kernel
theorem dX8_name_5 : decode cX8_name 5 = .ok (.bipush 105, 2) := by decide +kernel
theorem dX8_name_7 : decode cX8_name 7 = .ok (.bipush 110, 2) := by decide +kernel
theorem dX8_name_9 : decode cX8_name 9 = .ok (.bipush 103, 2) := by decide +kernel
theorem dX8_name_11 : decode cX8_name 11 = .ok (.iconst 0, 1) := by decide +kernel
theorem dX8_name_12 : decode cX8_name 12 = .ok (.iconst 0, 1) := by decide +kernel
theorem dX8_name_13 : decode cX8_name 13 = .ok (.iconst 0, 1) := by decide +kernel
theorem dX8_name_14 : decode cX8_name 14 = .ok (.invokevirtual 175, 3) := by decide +kernel
theorem dX8_name_17 : decode cX8_name 17 = .ok (.ifCond .eq 8, 3) := by decide +kernel
theorem dX8_name_20 : decode cX8_name 20 = .ok (.aload_n 0, 1) := by decide +kernel
theorem dX8_name_21 : decode cX8_name 21 = .ok (.getfield 179, 3) := by decide +kernel
theorem dX8_name_24 : decode cX8_name 24 = .ok (.ireturn, 1) := by decide +kernel
theorem dX8_name_25 : decode cX8_name 25 = .ok (.aload_n 0, 1) := by decide +kernel
theorem dX8_name_26 : decode cX8_name 26 = .ok (.bipush 119, 2) := by decide +kernel
theorem dX8_name_28 : decode cX8_name 28 = .ok (.bipush 111, 2) := by decide +kernel
theorem dX8_name_30 : decode cX8_name 30 = .ok (.bipush 114, 2) := by decide +kernel
theorem dX8_name_32 : decode cX8_name 32 = .ok (.bipush 100, 2) := by decide +kernel
theorem dX8_name_34 : decode cX8_name 34 = .ok (.bipush 115, 2) := by decide +kernel
theorem dX8_name_36 : decode cX8_name 36 = .ok (.iconst 0, 1) := by decide +kernel
theorem dX8_name_37 : decode cX8_name 37 = .ok (.iconst 0, 1) := by decide +kernel
theorem dX8_name_38 : decode cX8_name 38 = .ok (.iconst 0, 1) := by decide +kernel
theorem dX8_name_39 : decode cX8_name 39 = .ok (.invokevirtual 175, 3) := by decide +kernel
theorem dX8_name_42 : decode cX8_name 42 = .ok (.ifCond .eq 8, 3) := by decide +kernel
theorem dX8_name_45 : decode cX8_name 45 = .ok (.aload_n 0, 1) := by decide +kernel
theorem dX8_name_46 : decode cX8_name 46 = .ok (.getfield 182, 3) := by decide +kernel
theorem dX8_name_49 : decode cX8_name 49 = .ok (.ireturn, 1) := by decide +kernel
theorem dX8_name_50 : decode cX8_name 50 = .ok (.aload_n 0, 1) := by decide +kernel
theorem dX8_name_51 : decode cX8_name 51 = .ok (.bipush 119, 2) := by decide +kernel
theorem dX8_name_53 : decode cX8_name 53 = .ok (.bipush 97, 2) := by decide +kernel
theorem dX8_name_55 : decode cX8_name 55 = .ok (.bipush 121, 2) := by decide +kernel
theorem dX8_name_57 : decode cX8_name 57 = .ok (.bipush 115, 2) := by decide +kernel
theorem dX8_name_59 : decode cX8_name 59 = .ok (.iconst 0, 1) := by decide +kernel
theorem dX8_name_60 : decode cX8_name 60 = .ok (.iconst 0, 1) := by decide +kernel
theorem dX8_name_61 : decode cX8_name 61 = .ok (.iconst 0, 1) := by decide +kernel
theorem dX8_name_62 : decode cX8_name 62 = .ok (.iconst 0, 1) := by decide +kernel
theorem dX8_name_63 : decode cX8_name 63 = .ok (.invokevirtual 175, 3) := by decide +kernel
theorem dX8_name_66 : decode cX8_name 66 = .ok (.ifCond .eq 8, 3) := by decide +kernel
theorem dX8_name_69 : decode cX8_name 69 = .ok (.aload_n 0, 1) := by decide +kernel
theorem dX8_name_70 : decode cX8_name 70 = .ok (.getfield 185, 3) := by decide +kernel
theorem dX8_name_73 : decode cX8_name 73 = .ok (.ireturn, 1) := by decide +kernel
theorem dX8_name_74 : decode cX8_name 74 = .ok (.aload_n 0, 1) := by decide +kernel
theorem dX8_name_75 : decode cX8_name 75 = .ok (.bipush 110, 2) := by decide +kernel
theorem dX8_name_77 : decode cX8_name 77 = .ok (.bipush 117, 2) := by decide +kernel
theorem dX8_name_79 : decode cX8_name 79 = .ok (.bipush 109, 2) := by decide +kernel
theorem dX8_name_81 : decode cX8_name 81 = .ok (.bipush 98, 2) := by decide +kernel
theorem dX8_name_83 : decode cX8_name 83 = .ok (.bipush 101, 2) := by decide +kernel
theorem dX8_name_85 : decode cX8_name 85 = .ok (.bipush 114, 2) := by decide +kernel
theorem dX8_name_87 : decode cX8_name 87 = .ok (.iconst 0, 1) := by decide +kernel
theorem dX8_name_88 : decode cX8_name 88 = .ok (.iconst 0, 1) := by decide +kernel
theorem dX8_name_89 : decode cX8_name 89 = .ok (.invokevirtual 175, 3) := by decide +kernel
theorem dX8_name_92 : decode cX8_name 92 = .ok (.ifCond .eq 8, 3) := by decide +kernel
theorem dX8_name_95 : decode cX8_name 95 = .ok (.aload_n 0, 1) := by decide +kernel
theorem dX8_name_96 : decode cX8_name 96 = .ok (.getfield 188, 3) := by decide +kernel
theorem dX8_name_99 : decode cX8_name 99 = .ok (.ireturn, 1) := by decide +kernel
theorem dX8_name_100 : decode cX8_name 100 = .ok (.aload_n 0, 1) := by decide +kernel
theorem dX8_name_101 : decode cX8_name 101 = .ok (.bipush 100, 2) := by decide +kernel
theorem dX8_name_103 : decode cX8_name 103 = .ok (.bipush 97, 2) := by decide +kernel
theorem dX8_name_105 : decode cX8_name 105 = .ok (.bipush 121, 2) := by decide +kernel
theorem dX8_name_107 : decode cX8_name 107 = .ok (.iconst 0, 1) := by decide +kernel
theorem dX8_name_108 : decode cX8_name 108 = .ok (.iconst 0, 1) := by decide +kernel
theorem dX8_name_109 : decode cX8_name 109 = .ok (.iconst 0, 1) := by decide +kernel
theorem dX8_name_110 : decode cX8_name 110 = .ok (.iconst 0, 1) := by decide +kernel
theorem dX8_name_111 : decode cX8_name 111 = .ok (.iconst 0, 1) := by decide +kernel
theorem dX8_name_112 : decode cX8_name 112 = .ok (.invokevirtual 175, 3) := by decide +kernel
theorem dX8_name_115 : decode cX8_name 115 = .ok (.ifCond .eq 8, 3) := by decide +kernel
theorem dX8_name_118 : decode cX8_name 118 = .ok (.aload_n 0, 1) := by decide +kernel
theorem dX8_name_119 : decode cX8_name 119 = .ok (.getfield 191, 3) := by decide +kernel
theorem dX8_name_122 : decode cX8_name 122 = .ok (.ireturn, 1) := by decide +kernel
theorem dX8_name_123 : decode cX8_name 123 = .ok (.aload_n 0, 1) := by decide +kernel
theorem dX8_name_124 : decode cX8_name 124 = .ok (.bipush 104, 2) := by decide +kernel
theorem dX8_name_126 : decode cX8_name 126 = .ok (.bipush 97, 2) := by decide +kernel
theorem dX8_name_128 : decode cX8_name 128 = .ok (.bipush 100, 2) := by decide +kernel
theorem dX8_name_130 : decode cX8_name 130 = .ok (.iconst 0, 1) := by decide +kernel
theorem dX8_name_131 : decode cX8_name 131 = .ok (.iconst 0, 1) := by decide +kernel
theorem dX8_name_132 : decode cX8_name 132 = .ok (.iconst 0, 1) := by decide +kernel
theorem dX8_name_133 : decode cX8_name 133 = .ok (.iconst 0, 1) := by decide +kernel
theorem dX8_name_134 : decode cX8_name 134 = .ok (.iconst 0, 1) := by decide +kernel
theorem dX8_name_135 : decode cX8_name 135 = .ok (.invokevirtual 175, 3) := by decide +kernel
theorem dX8_name_138 : decode cX8_name 138 = .ok (.ifCond .eq 8, 3) := by decide +kernel
theorem dX8_name_141 : decode cX8_name 141 = .ok (.aload_n 0, 1) := by decide +kernel
theorem dX8_name_142 : decode cX8_name 142 = .ok (.getfield 194, 3) := by decide +kernel
theorem dX8_name_145 : decode cX8_name 145 = .ok (.ireturn, 1) := by decide +kernel
theorem dX8_name_146 : decode cX8_name 146 = .ok (.aload_n 0, 1) := by decide +kernel
theorem dX8_name_147 : decode cX8_name 147 = .ok (.invokevirtual 169, 3) := by decide +kernel
theorem dX8_name_150 : decode cX8_name 150 = .ok (.iconst 0, 1) := by decide +kernel
theorem dX8_name_151 : decode cX8_name 151 = .ok (.ireturn, 1) := by decide +kernel
theorem dX8_atom5_0 : decode cX8_atom5 0 = .ok (.iconst 0, 1) := by decide +kernel
theorem dX8_atom5_1 : decode cX8_atom5 1 = .ok (.istore_n 1, 1) := by decide +kernel
theorem dX8_atom5_2 : decode cX8_atom5 2 = .ok (.aload_n 0, 1) := by decide +kernel
theorem dX8_atom5_3 : decode cX8_atom5 3 = .ok (.bipush 45, 2) := by decide +kernel
theorem dX8_atom5_5 : decode cX8_atom5 5 = .ok (.invokevirtual 197, 3) := by decide +kernel
theorem dX8_atom5_8 : decode cX8_atom5 8 = .ok (.ifCond .eq 11, 3) := by decide +kernel
theorem dX8_atom5_11 : decode cX8_atom5 11 = .ok (.aload_n 0, 1) := by decide +kernel
theorem dX8_atom5_12 : decode cX8_atom5 12 = .ok (.invokevirtual 200, 3) := by decide +kernel
theorem dX8_atom5_15 : decode cX8_atom5 15 = .ok (.pop, 1) := by decide +kernel
theorem dX8_atom5_16 : decode cX8_atom5 16 = .ok (.goto 86, 3) := by decide +kernel
theorem dX8_atom5_19 : decode cX8_atom5 19 = .ok (.aload_n 0, 1) := by decide +kernel
theorem dX8_atom5_20 : decode cX8_atom5 20 = .ok (.bipush 40, 2) := by decide +kernel
theorem dX8_atom5_22 : decode cX8_atom5 22 = .ok (.invokevirtual 197, 3) := by decide +kernel
theorem dX8_atom5_25 : decode cX8_atom5 25 = .ok (.ifCond .eq 11, 3) := by decide +kernel
theorem dX8_atom5_28 : decode cX8_atom5 28 = .ok (.aload_n 0, 1) := by decide +kernel
theorem dX8_atom5_29 : decode cX8_atom5 29 = .ok (.invokevirtual 200, 3) := by decide +kernel
theorem dX8_atom5_32 : decode cX8_atom5 32 = .ok (.pop, 1) := by decide +kernel
theorem dX8_atom5_33 : decode cX8_atom5 33 = .ok (.goto 69, 3) := by decide +kernel
theorem dX8_atom5_36 : decode cX8_atom5 36 = .ok (.aload_n 0, 1) := by decide +kernel
theorem dX8_atom5_37 : decode cX8_atom5 37 = .ok (.getfield 155, 3) := by decide +kernel
theorem dX8_atom5_40 : decode cX8_atom5 40 = .ok (.ifCond .ne 24, 3) := by decide +kernel
theorem dX8_atom5_43 : decode cX8_atom5 43 = .ok (.aload_n 0, 1) := by decide +kernel
theorem dX8_atom5_44 : decode cX8_atom5 44 = .ok (.getfield 138, 3) := by decide +kernel
theorem dX8_atom5_47 : decode cX8_atom5 47 = .ok (.iconst 2, 1) := by decide +kernel
theorem dX8_atom5_48 : decode cX8_atom5 48 = .ok (.if_icmp .ne 16, 3) := by decide +kernel
theorem dX8_atom5_51 : decode cX8_atom5 51 = .ok (.aload_n 0, 1) := by decide +kernel
theorem dX8_atom5_52 : decode cX8_atom5 52 = .ok (.getfield 149, 3) := by decide +kernel
theorem dX8_atom5_55 : decode cX8_atom5 55 = .ok (.l2i, 1) := by decide +kernel
theorem dX8_atom5_56 : decode cX8_atom5 56 = .ok (.istore_n 1, 1) := by decide +kernel
theorem dX8_atom5_57 : decode cX8_atom5 57 = .ok (.aload_n 0, 1) := by decide +kernel
theorem dX8_atom5_58 : decode cX8_atom5 58 = .ok (.invokevirtual 172, 3) := by decide +kernel
theorem dX8_atom5_61 : decode cX8_atom5 61 = .ok (.goto 41, 3) := by decide +kernel
theorem dX8_atom5_64 : decode cX8_atom5 64 = .ok (.aload_n 0, 1) := by decide +kernel
theorem dX8_atom5_65 : decode cX8_atom5 65 = .ok (.getfield 155, 3) := by decide +kernel
theorem dX8_atom5_68 : decode cX8_atom5 68 = .ok (.ifCond .ne 30, 3) := by decide +kernel
theorem dX8_atom5_71 : decode cX8_atom5 71 = .ok (.aload_n 0, 1) := by decide +kernel
theorem dX8_atom5_72 : decode cX8_atom5 72 = .ok (.getfield 138, 3) := by decide +kernel
theorem dX8_atom5_75 : decode cX8_atom5 75 = .ok (.iconst 1, 1) := by decide +kernel
theorem dX8_atom5_76 : decode cX8_atom5 76 = .ok (.if_icmp .ne 22, 3) := by decide +kernel
theorem dX8_atom5_79 : decode cX8_atom5 79 = .ok (.aload_n 0, 1) := by decide +kernel
theorem dX8_atom5_80 : decode cX8_atom5 80 = .ok (.invokevirtual 204, 3) := by decide +kernel
theorem dX8_atom5_83 : decode cX8_atom5 83 = .ok (.istore_n 1, 1) := by decide +kernel
theorem dX8_atom5_84 : decode cX8_atom5 84 = .ok (.aload_n 0, 1) := by decide +kernel
theorem dX8_atom5_85 : decode cX8_atom5 85 = .ok (.getfield 155, 3) := by decide +kernel
theorem dX8_atom5_88 : decode cX8_atom5 88 = .ok (.ifCond .ne 14, 3) := by decide +kernel
theorem dX8_atom5_91 : decode cX8_atom5 91 = .ok (.aload_n 0, 1) := by decide +kernel
theorem dX8_atom5_92 : decode cX8_atom5 92 = .ok (.invokevirtual 172, 3) := by decide +kernel
theorem dX8_atom5_95 : decode cX8_atom5 95 = .ok (.goto 7, 3) := by decide +kernel
theorem dX8_atom5_98 : decode cX8_atom5 98 = .ok (.aload_n 0, 1) := by decide +kernel
theorem dX8_atom5_99 : decode cX8_atom5 99 = .ok (.invokevirtual 169, 3) := by decide +kernel
theorem dX8_atom5_102 : decode cX8_atom5 102 = .ok (.iload_n 1, 1) := by decide +kernel
theorem dX8_atom5_103 : decode cX8_atom5 103 = .ok (.ireturn, 1) := by decide +kernel
theorem dX8_term5_0 : decode cX8_term5 0 = .ok (.aload_n 0, 1) := by decide +kernel
theorem dX8_term5_1 : decode cX8_term5 1 = .ok (.invokevirtual 208, 3) := by decide +kernel
theorem dX8_term5_4 : decode cX8_term5 4 = .ok (.istore_n 1, 1) := by decide +kernel
theorem dX8_term5_5 : decode cX8_term5 5 = .ok (.aload_n 0, 1) := by decide +kernel
theorem dX8_term5_6 : decode cX8_term5 6 = .ok (.bipush 42, 2) := by decide +kernel
theorem dX8_term5_8 : decode cX8_term5 8 = .ok (.invokevirtual 197, 3) := by decide +kernel
theorem dX8_term5_11 : decode cX8_term5 11 = .ok (.ifCond .eq 17, 3) := by decide +kernel
theorem dX8_term5_14 : decode cX8_term5 14 = .ok (.aload_n 0, 1) := by decide +kernel
theorem dX8_term5_15 : decode cX8_term5 15 = .ok (.invokevirtual 172, 3) := by decide +kernel
theorem dX8_term5_18 : decode cX8_term5 18 = .ok (.iload_n 1, 1) := by decide +kernel
theorem dX8_term5_19 : decode cX8_term5 19 = .ok (.aload_n 0, 1) := by decide +kernel
theorem dX8_term5_20 : decode cX8_term5 20 = .ok (.invokevirtual 208, 3) := by decide +kernel
theorem dX8_term5_23 : decode cX8_term5 23 = .ok (.imul, 1) := by decide +kernel
theorem dX8_term5_24 : decode cX8_term5 24 = .ok (.istore_n 1, 1) := by decide +kernel
theorem dX8_term5_25 : decode cX8_term5 25 = .ok (.goto (-20), 3) := by decide +kernel
theorem dX8_term5_28 : decode cX8_term5 28 = .ok (.iload_n 1, 1) := by decide +kernel
theorem dX8_term5_29 : decode cX8_term5 29 = .ok (.ireturn, 1) := by decide +kernel
theorem dX8_added5_0 : decode cX8_added5 0 = .ok (.aload_n 0, 1) := by decide +kernel
theorem dX8_added5_1 : decode cX8_added5 1 = .ok (.invokevirtual 211, 3) := by decide +kernel
theorem dX8_added5_4 : decode cX8_added5 4 = .ok (.istore_n 1, 1) := by decide +kernel
theorem dX8_added5_5 : decode cX8_added5 5 = .ok (.aload_n 0, 1) := by decide +kernel
theorem dX8_added5_6 : decode cX8_added5 6 = .ok (.bipush 43, 2) := by decide +kernel
theorem dX8_added5_8 : decode cX8_added5 8 = .ok (.invokevirtual 197, 3) := by decide +kernel
theorem dX8_added5_11 : decode cX8_added5 11 = .ok (.ifCond .ne 12, 3) := by decide +kernel
theorem dX8_added5_14 : decode cX8_added5 14 = .ok (.aload_n 0, 1) := by decide +kernel
theorem dX8_added5_15 : decode cX8_added5 15 = .ok (.bipush 45, 2) := by decide +kernel
theorem dX8_added5_17 : decode cX8_added5 17 = .ok (.invokevirtual 197, 3) := by decide +kernel
theorem dX8_added5_20 : decode cX8_added5 20 = .ok (.ifCond .eq 46, 3) := by decide +kernel
theorem dX8_added5_23 : decode cX8_added5 23 = .ok (.aload_n 0, 1) := by decide +kernel
theorem dX8_added5_24 : decode cX8_added5 24 = .ok (.getfield 149, 3) := by decide +kernel
theorem dX8_added5_27 : decode cX8_added5 27 = .ok (.ldc2_w 214, 3) := by decide +kernel
theorem dX8_added5_30 : decode cX8_added5 30 = .ok (.lcmp, 1) := by decide +kernel
theorem dX8_added5_31 : decode cX8_added5 31 = .ok (.ifCond .ne 7, 3) := by decide +kernel
theorem dX8_added5_34 : decode cX8_added5 34 = .ok (.iconst 1, 1) := by decide +kernel
theorem dX8_added5_35 : decode cX8_added5 35 = .ok (.goto 4, 3) := by decide +kernel
theorem dX8_added5_38 : decode cX8_added5 38 = .ok (.iconst 0, 1) := by decide +kernel
theorem dX8_added5_39 : decode cX8_added5 39 = .ok (.istore_n 2, 1) := by decide +kernel
theorem dX8_added5_40 : decode cX8_added5 40 = .ok (.aload_n 0, 1) := by decide +kernel
theorem dX8_added5_41 : decode cX8_added5 41 = .ok (.invokevirtual 172, 3) := by decide +kernel
theorem dX8_added5_44 : decode cX8_added5 44 = .ok (.aload_n 0, 1) := by decide +kernel
theorem dX8_added5_45 : decode cX8_added5 45 = .ok (.invokevirtual 211, 3) := by decide +kernel
theorem dX8_added5_48 : decode cX8_added5 48 = .ok (.istore_n 3, 1) := by decide +kernel
theorem dX8_added5_49 : decode cX8_added5 49 = .ok (.iload_n 2, 1) := by decide +kernel
theorem dX8_added5_50 : decode cX8_added5 50 = .ok (.ifCond .eq 9, 3) := by decide +kernel
theorem dX8_added5_53 : decode cX8_added5 53 = .ok (.iload_n 1, 1) := by decide +kernel
theorem dX8_added5_54 : decode cX8_added5 54 = .ok (.iload_n 3, 1) := by decide +kernel
theorem dX8_added5_55 : decode cX8_added5 55 = .ok (.iadd, 1) := by decide +kernel
theorem dX8_added5_56 : decode cX8_added5 56 = .ok (.goto 6, 3) := by decide +kernel
theorem dX8_added5_59 : decode cX8_added5 59 = .ok (.iload_n 1, 1) := by decide +kernel
theorem dX8_added5_60 : decode cX8_added5 60 = .ok (.iload_n 3, 1) := by decide +kernel
theorem dX8_added5_61 : decode cX8_added5 61 = .ok (.isub, 1) := by decide +kernel
theorem dX8_added5_62 : decode cX8_added5 62 = .ok (.istore_n 1, 1) := by decide +kernel
theorem dX8_added5_63 : decode cX8_added5 63 = .ok (.goto (-58), 3) := by decide +kernel
theorem dX8_added5_66 : decode cX8_added5 66 = .ok (.iload_n 1, 1) := by decide +kernel
theorem dX8_added5_67 : decode cX8_added5 67 = .ok (.ireturn, 1) := by decide +kernel
theorem dX8_not5_0 : decode cX8_not5 0 = .ok (.aload_n 0, 1) := by decide +kernel
theorem dX8_not5_1 : decode cX8_not5 1 = .ok (.bipush 110, 2) := by decide +kernel
theorem dX8_not5_3 : decode cX8_not5 3 = .ok (.bipush 111, 2) := by decide +kernel
theorem dX8_not5_5 : decode cX8_not5 5 = .ok (.bipush 116, 2) := by decide +kernel
theorem dX8_not5_7 : decode cX8_not5 7 = .ok (.iconst 0, 1) := by decide +kernel
theorem dX8_not5_8 : decode cX8_not5 8 = .ok (.iconst 0, 1) := by decide +kernel
theorem dX8_not5_9 : decode cX8_not5 9 = .ok (.iconst 0, 1) := by decide +kernel
theorem dX8_not5_10 : decode cX8_not5 10 = .ok (.iconst 0, 1) := by decide +kernel
theorem dX8_not5_11 : decode cX8_not5 11 = .ok (.iconst 0, 1) := by decide +kernel
theorem dX8_not5_12 : decode cX8_not5 12 = .ok (.invokevirtual 175, 3) := by decide +kernel
theorem dX8_not5_15 : decode cX8_not5 15 = .ok (.ifCond .eq 10, 3) := by decide +kernel
theorem dX8_not5_18 : decode cX8_not5 18 = .ok (.aload_n 0, 1) := by decide +kernel
theorem dX8_not5_19 : decode cX8_not5 19 = .ok (.invokevirtual 200, 3) := by decide +kernel
theorem dX8_not5_22 : decode cX8_not5 22 = .ok (.pop, 1) := by decide +kernel
theorem dX8_not5_23 : decode cX8_not5 23 = .ok (.iconst 0, 1) := by decide +kernel
theorem dX8_not5_24 : decode cX8_not5 24 = .ok (.ireturn, 1) := by decide +kernel
theorem dX8_not5_25 : decode cX8_not5 25 = .ok (.aload_n 0, 1) := by decide +kernel
theorem dX8_not5_26 : decode cX8_not5 26 = .ok (.invokevirtual 216, 3) := by decide +kernel
theorem dX8_not5_29 : decode cX8_not5 29 = .ok (.istore_n 1, 1) := by decide +kernel
theorem dX8_not5_30 : decode cX8_not5 30 = .ok (.aload_n 0, 1) := by decide +kernel
theorem dX8_not5_31 : decode cX8_not5 31 = .ok (.bipush 60, 2) := by decide +kernel
theorem dX8_not5_33 : decode cX8_not5 33 = .ok (.invokevirtual 197, 3) := by decide +kernel
theorem dX8_not5_36 : decode cX8_not5 36 = .ok (.ifCond .ne 14, 3) := by decide +kernel
theorem dX8_not5_39 : decode cX8_not5 39 = .ok (.aload_n 0, 1) := by decide +kernel
theorem dX8_not5_40 : decode cX8_not5 40 = .ok (.bipush 61, 2) := by decide +kernel
theorem dX8_not5_42 : decode cX8_not5 42 = .ok (.invokevirtual 197, 3) := by decide +kernel
theorem dX8_not5_45 : decode cX8_not5 45 = .ok (.ifCond .ne 5, 3) := by decide +kernel
theorem dX8_not5_48 : decode cX8_not5 48 = .ok (.iload_n 1, 1) := by decide +kernel
theorem dX8_not5_49 : decode cX8_not5 49 = .ok (.ireturn, 1) := by decide +kernel
theorem dX8_not5_50 : decode cX8_not5 50 = .ok (.aload_n 0, 1) := by decide +kernel
theorem dX8_not5_51 : decode cX8_not5 51 = .ok (.getfield 149, 3) := by decide +kernel
theorem dX8_not5_54 : decode cX8_not5 54 = .ok (.ldc2_w 219, 3) := by decide +kernel
theorem dX8_not5_57 : decode cX8_not5 57 = .ok (.lcmp, 1) := by decide +kernel
theorem dX8_not5_58 : decode cX8_not5 58 = .ok (.ifCond .ne 7, 3) := by decide +kernel
theorem dX8_not5_61 : decode cX8_not5 61 = .ok (.iconst 1, 1) := by decide +kernel
theorem dX8_not5_62 : decode cX8_not5 62 = .ok (.goto 4, 3) := by decide +kernel
theorem dX8_not5_65 : decode cX8_not5 65 = .ok (.iconst 0, 1) := by decide +kernel
theorem dX8_not5_66 : decode cX8_not5 66 = .ok (.istore_n 2, 1) := by decide +kernel
theorem dX8_not5_67 : decode cX8_not5 67 = .ok (.aload_n 0, 1) := by decide +kernel
theorem dX8_not5_68 : decode cX8_not5 68 = .ok (.invokevirtual 172, 3) := by decide +kernel
theorem dX8_not5_71 : decode cX8_not5 71 = .ok (.aload_n 0, 1) := by decide +kernel
theorem dX8_not5_72 : decode cX8_not5 72 = .ok (.invokevirtual 216, 3) := by decide +kernel
theorem dX8_not5_75 : decode cX8_not5 75 = .ok (.istore_n 3, 1) := by decide +kernel
theorem dX8_not5_76 : decode cX8_not5 76 = .ok (.iload_n 2, 1) := by decide +kernel
theorem dX8_not5_77 : decode cX8_not5 77 = .ok (.ifCond .eq 11, 3) := by decide +kernel
theorem dX8_not5_80 : decode cX8_not5 80 = .ok (.iload_n 1, 1) := by decide +kernel
theorem dX8_not5_81 : decode cX8_not5 81 = .ok (.iload_n 3, 1) := by decide +kernel
theorem dX8_not5_82 : decode cX8_not5 82 = .ok (.if_icmp .ge 15, 3) := by decide +kernel
theorem dX8_not5_85 : decode cX8_not5 85 = .ok (.goto 8, 3) := by decide +kernel
theorem dX8_not5_88 : decode cX8_not5 88 = .ok (.iload_n 1, 1) := by decide +kernel
theorem dX8_not5_89 : decode cX8_not5 89 = .ok (.iload_n 3, 1) := by decide +kernel
theorem dX8_not5_90 : decode cX8_not5 90 = .ok (.if_icmp .ne 7, 3) := by decide +kernel
theorem dX8_not5_93 : decode cX8_not5 93 = .ok (.iconst 1, 1) := by decide +kernel
theorem dX8_not5_94 : decode cX8_not5 94 = .ok (.goto 4, 3) := by decide +kernel
theorem dX8_not5_97 : decode cX8_not5 97 = .ok (.iconst 0, 1) := by decide +kernel
theorem dX8_not5_98 : decode cX8_not5 98 = .ok (.ireturn, 1) := by decide +kernel
theorem dX8_both5_0 : decode cX8_both5 0 = .ok (.aload_n 0, 1) := by decide +kernel
theorem dX8_both5_1 : decode cX8_both5 1 = .ok (.invokevirtual 221, 3) := by decide +kernel
theorem dX8_both5_4 : decode cX8_both5 4 = .ok (.istore_n 1, 1) := by decide +kernel
theorem dX8_both5_5 : decode cX8_both5 5 = .ok (.aload_n 0, 1) := by decide +kernel
theorem dX8_both5_6 : decode cX8_both5 6 = .ok (.bipush 97, 2) := by decide +kernel
theorem dX8_both5_8 : decode cX8_both5 8 = .ok (.bipush 110, 2) := by decide +kernel
theorem dX8_both5_10 : decode cX8_both5 10 = .ok (.bipush 100, 2) := by decide +kernel
theorem dX8_both5_12 : decode cX8_both5 12 = .ok (.iconst 0, 1) := by decide +kernel
theorem dX8_both5_13 : decode cX8_both5 13 = .ok (.iconst 0, 1) := by decide +kernel
theorem dX8_both5_14 : decode cX8_both5 14 = .ok (.iconst 0, 1) := by decide +kernel
theorem dX8_both5_15 : decode cX8_both5 15 = .ok (.iconst 0, 1) := by decide +kernel
theorem dX8_both5_16 : decode cX8_both5 16 = .ok (.iconst 0, 1) := by decide +kernel
theorem dX8_both5_17 : decode cX8_both5 17 = .ok (.invokevirtual 175, 3) := by decide +kernel
theorem dX8_both5_20 : decode cX8_both5 20 = .ok (.ifCond .eq 29, 3) := by decide +kernel
theorem dX8_both5_23 : decode cX8_both5 23 = .ok (.aload_n 0, 1) := by decide +kernel
theorem dX8_both5_24 : decode cX8_both5 24 = .ok (.invokevirtual 172, 3) := by decide +kernel
theorem dX8_both5_27 : decode cX8_both5 27 = .ok (.aload_n 0, 1) := by decide +kernel
theorem dX8_both5_28 : decode cX8_both5 28 = .ok (.invokevirtual 221, 3) := by decide +kernel
theorem dX8_both5_31 : decode cX8_both5 31 = .ok (.istore_n 2, 1) := by decide +kernel
theorem dX8_both5_32 : decode cX8_both5 32 = .ok (.iload_n 1, 1) := by decide +kernel
theorem dX8_both5_33 : decode cX8_both5 33 = .ok (.ifCond .eq 11, 3) := by decide +kernel
theorem dX8_both5_36 : decode cX8_both5 36 = .ok (.iload_n 2, 1) := by decide +kernel
theorem dX8_both5_37 : decode cX8_both5 37 = .ok (.ifCond .eq 7, 3) := by decide +kernel
theorem dX8_both5_40 : decode cX8_both5 40 = .ok (.iconst 1, 1) := by decide +kernel
theorem dX8_both5_41 : decode cX8_both5 41 = .ok (.goto 4, 3) := by decide +kernel
theorem dX8_both5_44 : decode cX8_both5 44 = .ok (.iconst 0, 1) := by decide +kernel
theorem dX8_both5_45 : decode cX8_both5 45 = .ok (.istore_n 1, 1) := by decide +kernel
theorem dX8_both5_46 : decode cX8_both5 46 = .ok (.goto (-41), 3) := by decide +kernel
theorem dX8_both5_49 : decode cX8_both5 49 = .ok (.iload_n 1, 1) := by decide +kernel
theorem dX8_both5_50 : decode cX8_both5 50 = .ok (.ireturn, 1) := by decide +kernel
theorem dX8_either5_0 : decode cX8_either5 0 = .ok (.aload_n 0, 1) := by decide +kernel
theorem dX8_either5_1 : decode cX8_either5 1 = .ok (.invokevirtual 224, 3) := by decide +kernel
theorem dX8_either5_4 : decode cX8_either5 4 = .ok (.istore_n 1, 1) := by decide +kernel
theorem dX8_either5_5 : decode cX8_either5 5 = .ok (.aload_n 0, 1) := by decide +kernel
theorem dX8_either5_6 : decode cX8_either5 6 = .ok (.bipush 111, 2) := by decide +kernel
theorem dX8_either5_8 : decode cX8_either5 8 = .ok (.bipush 114, 2) := by decide +kernel
theorem dX8_either5_10 : decode cX8_either5 10 = .ok (.iconst 0, 1) := by decide +kernel
theorem dX8_either5_11 : decode cX8_either5 11 = .ok (.iconst 0, 1) := by decide +kernel
theorem dX8_either5_12 : decode cX8_either5 12 = .ok (.iconst 0, 1) := by decide +kernel
theorem dX8_either5_13 : decode cX8_either5 13 = .ok (.iconst 0, 1) := by decide +kernel
theorem dX8_either5_14 : decode cX8_either5 14 = .ok (.iconst 0, 1) := by decide +kernel
theorem dX8_either5_15 : decode cX8_either5 15 = .ok (.iconst 0, 1) := by decide +kernel
theorem dX8_either5_16 : decode cX8_either5 16 = .ok (.invokevirtual 175, 3) := by decide +kernel
theorem dX8_either5_19 : decode cX8_either5 19 = .ok (.ifCond .eq 29, 3) := by decide +kernel
theorem dX8_either5_22 : decode cX8_either5 22 = .ok (.aload_n 0, 1) := by decide +kernel
theorem dX8_either5_23 : decode cX8_either5 23 = .ok (.invokevirtual 172, 3) := by decide +kernel
theorem dX8_either5_26 : decode cX8_either5 26 = .ok (.aload_n 0, 1) := by decide +kernel
theorem dX8_either5_27 : decode cX8_either5 27 = .ok (.invokevirtual 224, 3) := by decide +kernel
theorem dX8_either5_30 : decode cX8_either5 30 = .ok (.istore_n 2, 1) := by decide +kernel
theorem dX8_either5_31 : decode cX8_either5 31 = .ok (.iload_n 1, 1) := by decide +kernel
theorem dX8_either5_32 : decode cX8_either5 32 = .ok (.ifCond .ne 7, 3) := by decide +kernel
theorem dX8_either5_35 : decode cX8_either5 35 = .ok (.iload_n 2, 1) := by decide +kernel
theorem dX8_either5_36 : decode cX8_either5 36 = .ok (.ifCond .eq 7, 3) := by decide +kernel
theorem dX8_either5_39 : decode cX8_either5 39 = .ok (.iconst 1, 1) := by decide +kernel
theorem dX8_either5_40 : decode cX8_either5 40 = .ok (.goto 4, 3) := by decide +kernel
theorem dX8_either5_43 : decode cX8_either5 43 = .ok (.iconst 0, 1) := by decide +kernel
theorem dX8_either5_44 : decode cX8_either5 44 = .ok (.istore_n 1, 1) := by decide +kernel
theorem dX8_either5_45 : decode cX8_either5 45 = .ok (.goto (-40), 3) := by decide +kernel
theorem dX8_either5_48 : decode cX8_either5 48 = .ok (.iload_n 1, 1) := by decide +kernel
theorem dX8_either5_49 : decode cX8_either5 49 = .ok (.ireturn, 1) := by decide +kernel
theorem dX8_atom4_0 : decode cX8_atom4 0 = .ok (.iconst 0, 1) := by decide +kernel
theorem dX8_atom4_1 : decode cX8_atom4 1 = .ok (.istore_n 1, 1) := by decide +kernel
theorem dX8_atom4_2 : decode cX8_atom4 2 = .ok (.aload_n 0, 1) := by decide +kernel
theorem dX8_atom4_3 : decode cX8_atom4 3 = .ok (.bipush 45, 2) := by decide +kernel
theorem dX8_atom4_5 : decode cX8_atom4 5 = .ok (.invokevirtual 197, 3) := by decide +kernel
theorem dX8_atom4_8 : decode cX8_atom4 8 = .ok (.ifCond .eq 29, 3) := by decide +kernel
theorem dX8_atom4_11 : decode cX8_atom4 11 = .ok (.aload_n 0, 1) := by decide +kernel
theorem dX8_atom4_12 : decode cX8_atom4 12 = .ok (.invokevirtual 200, 3) := by decide +kernel
theorem dX8_atom4_15 : decode cX8_atom4 15 = .ok (.ifCond .eq 146, 3) := by decide +kernel
theorem dX8_atom4_18 : decode cX8_atom4 18 = .ok (.aload_n 0, 1) := by decide +kernel
theorem dX8_atom4_19 : decode cX8_atom4 19 = .ok (.invokevirtual 208, 3) := by decide +kernel
theorem dX8_atom4_22 : decode cX8_atom4 22 = .ok (.ineg, 1) := by decide +kernel
theorem dX8_atom4_23 : decode cX8_atom4 23 = .ok (.istore_n 1, 1) := by decide +kernel
theorem dX8_atom4_24 : decode cX8_atom4 24 = .ok (.aload_n 0, 1) := by decide +kernel
theorem dX8_atom4_25 : decode cX8_atom4 25 = .ok (.dup, 1) := by decide +kernel
theorem dX8_atom4_26 : decode cX8_atom4 26 = .ok (.getfield 166, 3) := by decide +kernel
theorem dX8_atom4_29 : decode cX8_atom4 29 = .ok (.iconst 1, 1) := by decide +kernel
theorem dX8_atom4_30 : decode cX8_atom4 30 = .ok (.isub, 1) := by decide +kernel
theorem dX8_atom4_31 : decode cX8_atom4 31 = .ok (.putfield 166, 3) := by decide +kernel
theorem dX8_atom4_34 : decode cX8_atom4 34 = .ok (.goto 127, 3) := by decide +kernel
theorem dX8_atom4_37 : decode cX8_atom4 37 = .ok (.aload_n 0, 1) := by decide +kernel
theorem dX8_atom4_38 : decode cX8_atom4 38 = .ok (.bipush 40, 2) := by decide +kernel
theorem dX8_atom4_40 : decode cX8_atom4 40 = .ok (.invokevirtual 197, 3) := by decide +kernel
theorem dX8_atom4_43 : decode cX8_atom4 43 = .ok (.ifCond .eq 52, 3) := by decide +kernel
theorem dX8_atom4_46 : decode cX8_atom4 46 = .ok (.aload_n 0, 1) := by decide +kernel
theorem dX8_atom4_47 : decode cX8_atom4 47 = .ok (.invokevirtual 200, 3) := by decide +kernel
theorem dX8_atom4_50 : decode cX8_atom4 50 = .ok (.ifCond .eq 111, 3) := by decide +kernel
theorem dX8_atom4_53 : decode cX8_atom4 53 = .ok (.aload_n 0, 1) := by decide +kernel
theorem dX8_atom4_54 : decode cX8_atom4 54 = .ok (.invokevirtual 227, 3) := by decide +kernel
theorem dX8_atom4_57 : decode cX8_atom4 57 = .ok (.istore_n 1, 1) := by decide +kernel
theorem dX8_atom4_58 : decode cX8_atom4 58 = .ok (.aload_n 0, 1) := by decide +kernel
theorem dX8_atom4_59 : decode cX8_atom4 59 = .ok (.bipush 41, 2) := by decide +kernel
theorem dX8_atom4_61 : decode cX8_atom4 61 = .ok (.invokevirtual 197, 3) := by decide +kernel
theorem dX8_atom4_64 : decode cX8_atom4 64 = .ok (.ifCond .ne 7, 3) := by decide +kernel
theorem dX8_atom4_67 : decode cX8_atom4 67 = .ok (.aload_n 0, 1) := by decide +kernel
theorem dX8_atom4_68 : decode cX8_atom4 68 = .ok (.invokevirtual 169, 3) := by decide +kernel
theorem dX8_atom4_71 : decode cX8_atom4 71 = .ok (.aload_n 0, 1) := by decide +kernel
theorem dX8_atom4_72 : decode cX8_atom4 72 = .ok (.dup, 1) := by decide +kernel
theorem dX8_atom4_73 : decode cX8_atom4 73 = .ok (.getfield 166, 3) := by decide +kernel
theorem dX8_atom4_76 : decode cX8_atom4 76 = .ok (.iconst 1, 1) := by decide +kernel
theorem dX8_atom4_77 : decode cX8_atom4 77 = .ok (.isub, 1) := by decide +kernel
theorem dX8_atom4_78 : decode cX8_atom4 78 = .ok (.putfield 166, 3) := by decide +kernel
theorem dX8_atom4_81 : decode cX8_atom4 81 = .ok (.aload_n 0, 1) := by decide +kernel
theorem dX8_atom4_82 : decode cX8_atom4 82 = .ok (.getfield 155, 3) := by decide +kernel
theorem dX8_atom4_85 : decode cX8_atom4 85 = .ok (.ifCond .ne 76, 3) := by decide +kernel
theorem dX8_atom4_88 : decode cX8_atom4 88 = .ok (.aload_n 0, 1) := by decide +kernel
theorem dX8_atom4_89 : decode cX8_atom4 89 = .ok (.invokevirtual 172, 3) := by decide +kernel
theorem dX8_atom4_92 : decode cX8_atom4 92 = .ok (.goto 69, 3) := by decide +kernel
theorem dX8_atom4_95 : decode cX8_atom4 95 = .ok (.aload_n 0, 1) := by decide +kernel
theorem dX8_atom4_96 : decode cX8_atom4 96 = .ok (.getfield 155, 3) := by decide +kernel
theorem dX8_atom4_99 : decode cX8_atom4 99 = .ok (.ifCond .ne 24, 3) := by decide +kernel
theorem dX8_atom4_102 : decode cX8_atom4 102 = .ok (.aload_n 0, 1) := by decide +kernel
theorem dX8_atom4_103 : decode cX8_atom4 103 = .ok (.getfield 138, 3) := by decide +kernel
theorem dX8_atom4_106 : decode cX8_atom4 106 = .ok (.iconst 2, 1) := by decide +kernel
theorem dX8_atom4_107 : decode cX8_atom4 107 = .ok (.if_icmp .ne 16, 3) := by decide +kernel
theorem dX8_atom4_110 : decode cX8_atom4 110 = .ok (.aload_n 0, 1) := by decide +kernel
theorem dX8_atom4_111 : decode cX8_atom4 111 = .ok (.getfield 149, 3) := by decide +kernel
theorem dX8_atom4_114 : decode cX8_atom4 114 = .ok (.l2i, 1) := by decide +kernel
theorem dX8_atom4_115 : decode cX8_atom4 115 = .ok (.istore_n 1, 1) := by decide +kernel
theorem dX8_atom4_116 : decode cX8_atom4 116 = .ok (.aload_n 0, 1) := by decide +kernel
theorem dX8_atom4_117 : decode cX8_atom4 117 = .ok (.invokevirtual 172, 3) := by decide +kernel
theorem dX8_atom4_120 : decode cX8_atom4 120 = .ok (.goto 41, 3) := by decide +kernel
theorem dX8_atom4_123 : decode cX8_atom4 123 = .ok (.aload_n 0, 1) := by decide +kernel
theorem dX8_atom4_124 : decode cX8_atom4 124 = .ok (.getfield 155, 3) := by decide +kernel
theorem dX8_atom4_127 : decode cX8_atom4 127 = .ok (.ifCond .ne 30, 3) := by decide +kernel
theorem dX8_atom4_130 : decode cX8_atom4 130 = .ok (.aload_n 0, 1) := by decide +kernel
theorem dX8_atom4_131 : decode cX8_atom4 131 = .ok (.getfield 138, 3) := by decide +kernel
theorem dX8_atom4_134 : decode cX8_atom4 134 = .ok (.iconst 1, 1) := by decide +kernel
theorem dX8_atom4_135 : decode cX8_atom4 135 = .ok (.if_icmp .ne 22, 3) := by decide +kernel
theorem dX8_atom4_138 : decode cX8_atom4 138 = .ok (.aload_n 0, 1) := by decide +kernel
theorem dX8_atom4_139 : decode cX8_atom4 139 = .ok (.invokevirtual 204, 3) := by decide +kernel
theorem dX8_atom4_142 : decode cX8_atom4 142 = .ok (.istore_n 1, 1) := by decide +kernel
theorem dX8_atom4_143 : decode cX8_atom4 143 = .ok (.aload_n 0, 1) := by decide +kernel
theorem dX8_atom4_144 : decode cX8_atom4 144 = .ok (.getfield 155, 3) := by decide +kernel
theorem dX8_atom4_147 : decode cX8_atom4 147 = .ok (.ifCond .ne 14, 3) := by decide +kernel
theorem dX8_atom4_150 : decode cX8_atom4 150 = .ok (.aload_n 0, 1) := by decide +kernel
theorem dX8_atom4_151 : decode cX8_atom4 151 = .ok (.invokevirtual 172, 3) := by decide +kernel
theorem dX8_atom4_154 : decode cX8_atom4 154 = .ok (.goto 7, 3) := by decide +kernel
theorem dX8_atom4_157 : decode cX8_atom4 157 = .ok (.aload_n 0, 1) := by decide +kernel
theorem dX8_atom4_158 : decode cX8_atom4 158 = .ok (.invokevirtual 169, 3) := by decide +kernel
theorem dX8_atom4_161 : decode cX8_atom4 161 = .ok (.iload_n 1, 1) := by decide +kernel
theorem dX8_atom4_162 : decode cX8_atom4 162 = .ok (.ireturn, 1) := by decide +kernel
theorem dX8_term4_0 : decode cX8_term4 0 = .ok (.aload_n 0, 1) := by decide +kernel
theorem dX8_term4_1 : decode cX8_term4 1 = .ok (.invokevirtual 230, 3) := by decide +kernel
theorem dX8_term4_4 : decode cX8_term4 4 = .ok (.istore_n 1, 1) := by decide +kernel
theorem dX8_term4_5 : decode cX8_term4 5 = .ok (.aload_n 0, 1) := by decide +kernel
theorem dX8_term4_6 : decode cX8_term4 6 = .ok (.bipush 42, 2) := by decide +kernel
theorem dX8_term4_8 : decode cX8_term4 8 = .ok (.invokevirtual 197, 3) := by decide +kernel
theorem dX8_term4_11 : decode cX8_term4 11 = .ok (.ifCond .eq 17, 3) := by decide +kernel
theorem dX8_term4_14 : decode cX8_term4 14 = .ok (.aload_n 0, 1) := by decide +kernel
theorem dX8_term4_15 : decode cX8_term4 15 = .ok (.invokevirtual 172, 3) := by decide +kernel
theorem dX8_term4_18 : decode cX8_term4 18 = .ok (.iload_n 1, 1) := by decide +kernel
theorem dX8_term4_19 : decode cX8_term4 19 = .ok (.aload_n 0, 1) := by decide +kernel
theorem dX8_term4_20 : decode cX8_term4 20 = .ok (.invokevirtual 230, 3) := by decide +kernel
theorem dX8_term4_23 : decode cX8_term4 23 = .ok (.imul, 1) := by decide +kernel
theorem dX8_term4_24 : decode cX8_term4 24 = .ok (.istore_n 1, 1) := by decide +kernel
theorem dX8_term4_25 : decode cX8_term4 25 = .ok (.goto (-20), 3) := by decide +kernel
theorem dX8_term4_28 : decode cX8_term4 28 = .ok (.iload_n 1, 1) := by decide +kernel
theorem dX8_term4_29 : decode cX8_term4 29 = .ok (.ireturn, 1) := by decide +kernel
theorem dX8_added4_0 : decode cX8_added4 0 = .ok (.aload_n 0, 1) := by decide +kernel
theorem dX8_added4_1 : decode cX8_added4 1 = .ok (.invokevirtual 233, 3) := by decide +kernel
theorem dX8_added4_4 : decode cX8_added4 4 = .ok (.istore_n 1, 1) := by decide +kernel
theorem dX8_added4_5 : decode cX8_added4 5 = .ok (.aload_n 0, 1) := by decide +kernel
theorem dX8_added4_6 : decode cX8_added4 6 = .ok (.bipush 43, 2) := by decide +kernel
theorem dX8_added4_8 : decode cX8_added4 8 = .ok (.invokevirtual 197, 3) := by decide +kernel
theorem dX8_added4_11 : decode cX8_added4 11 = .ok (.ifCond .ne 12, 3) := by decide +kernel
theorem dX8_added4_14 : decode cX8_added4 14 = .ok (.aload_n 0, 1) := by decide +kernel
theorem dX8_added4_15 : decode cX8_added4 15 = .ok (.bipush 45, 2) := by decide +kernel
theorem dX8_added4_17 : decode cX8_added4 17 = .ok (.invokevirtual 197, 3) := by decide +kernel
theorem dX8_added4_20 : decode cX8_added4 20 = .ok (.ifCond .eq 46, 3) := by decide +kernel
theorem dX8_added4_23 : decode cX8_added4 23 = .ok (.aload_n 0, 1) := by decide +kernel
theorem dX8_added4_24 : decode cX8_added4 24 = .ok (.getfield 149, 3) := by decide +kernel
theorem dX8_added4_27 : decode cX8_added4 27 = .ok (.ldc2_w 214, 3) := by decide +kernel
theorem dX8_added4_30 : decode cX8_added4 30 = .ok (.lcmp, 1) := by decide +kernel
theorem dX8_added4_31 : decode cX8_added4 31 = .ok (.ifCond .ne 7, 3) := by decide +kernel
theorem dX8_added4_34 : decode cX8_added4 34 = .ok (.iconst 1, 1) := by decide +kernel
theorem dX8_added4_35 : decode cX8_added4 35 = .ok (.goto 4, 3) := by decide +kernel
theorem dX8_added4_38 : decode cX8_added4 38 = .ok (.iconst 0, 1) := by decide +kernel
theorem dX8_added4_39 : decode cX8_added4 39 = .ok (.istore_n 2, 1) := by decide +kernel
theorem dX8_added4_40 : decode cX8_added4 40 = .ok (.aload_n 0, 1) := by decide +kernel
theorem dX8_added4_41 : decode cX8_added4 41 = .ok (.invokevirtual 172, 3) := by decide +kernel
theorem dX8_added4_44 : decode cX8_added4 44 = .ok (.aload_n 0, 1) := by decide +kernel
theorem dX8_added4_45 : decode cX8_added4 45 = .ok (.invokevirtual 233, 3) := by decide +kernel
theorem dX8_added4_48 : decode cX8_added4 48 = .ok (.istore_n 3, 1) := by decide +kernel
theorem dX8_added4_49 : decode cX8_added4 49 = .ok (.iload_n 2, 1) := by decide +kernel
theorem dX8_added4_50 : decode cX8_added4 50 = .ok (.ifCond .eq 9, 3) := by decide +kernel
theorem dX8_added4_53 : decode cX8_added4 53 = .ok (.iload_n 1, 1) := by decide +kernel
theorem dX8_added4_54 : decode cX8_added4 54 = .ok (.iload_n 3, 1) := by decide +kernel
theorem dX8_added4_55 : decode cX8_added4 55 = .ok (.iadd, 1) := by decide +kernel
theorem dX8_added4_56 : decode cX8_added4 56 = .ok (.goto 6, 3) := by decide +kernel
theorem dX8_added4_59 : decode cX8_added4 59 = .ok (.iload_n 1, 1) := by decide +kernel
theorem dX8_added4_60 : decode cX8_added4 60 = .ok (.iload_n 3, 1) := by decide +kernel
theorem dX8_added4_61 : decode cX8_added4 61 = .ok (.isub, 1) := by decide +kernel
theorem dX8_added4_62 : decode cX8_added4 62 = .ok (.istore_n 1, 1) := by decide +kernel
theorem dX8_added4_63 : decode cX8_added4 63 = .ok (.goto (-58), 3) := by decide +kernel
theorem dX8_added4_66 : decode cX8_added4 66 = .ok (.iload_n 1, 1) := by decide +kernel
theorem dX8_added4_67 : decode cX8_added4 67 = .ok (.ireturn, 1) := by decide +kernel
theorem dX8_not4_0 : decode cX8_not4 0 = .ok (.aload_n 0, 1) := by decide +kernel
theorem dX8_not4_1 : decode cX8_not4 1 = .ok (.bipush 110, 2) := by decide +kernel
theorem dX8_not4_3 : decode cX8_not4 3 = .ok (.bipush 111, 2) := by decide +kernel
theorem dX8_not4_5 : decode cX8_not4 5 = .ok (.bipush 116, 2) := by decide +kernel
theorem dX8_not4_7 : decode cX8_not4 7 = .ok (.iconst 0, 1) := by decide +kernel
theorem dX8_not4_8 : decode cX8_not4 8 = .ok (.iconst 0, 1) := by decide +kernel
theorem dX8_not4_9 : decode cX8_not4 9 = .ok (.iconst 0, 1) := by decide +kernel
theorem dX8_not4_10 : decode cX8_not4 10 = .ok (.iconst 0, 1) := by decide +kernel
theorem dX8_not4_11 : decode cX8_not4 11 = .ok (.iconst 0, 1) := by decide +kernel
theorem dX8_not4_12 : decode cX8_not4 12 = .ok (.invokevirtual 175, 3) := by decide +kernel
theorem dX8_not4_15 : decode cX8_not4 15 = .ok (.ifCond .eq 37, 3) := by decide +kernel
theorem dX8_not4_18 : decode cX8_not4 18 = .ok (.aload_n 0, 1) := by decide +kernel
theorem dX8_not4_19 : decode cX8_not4 19 = .ok (.invokevirtual 200, 3) := by decide +kernel
theorem dX8_not4_22 : decode cX8_not4 22 = .ok (.ifCond .ne 5, 3) := by decide +kernel
theorem dX8_not4_25 : decode cX8_not4 25 = .ok (.iconst 0, 1) := by decide +kernel
theorem dX8_not4_26 : decode cX8_not4 26 = .ok (.ireturn, 1) := by decide +kernel
theorem dX8_not4_27 : decode cX8_not4 27 = .ok (.aload_n 0, 1) := by decide +kernel
theorem dX8_not4_28 : decode cX8_not4 28 = .ok (.invokevirtual 221, 3) := by decide +kernel
theorem dX8_not4_31 : decode cX8_not4 31 = .ok (.istore_n 1, 1) := by decide +kernel
theorem dX8_not4_32 : decode cX8_not4 32 = .ok (.aload_n 0, 1) := by decide +kernel
theorem dX8_not4_33 : decode cX8_not4 33 = .ok (.dup, 1) := by decide +kernel
theorem dX8_not4_34 : decode cX8_not4 34 = .ok (.getfield 166, 3) := by decide +kernel
theorem dX8_not4_37 : decode cX8_not4 37 = .ok (.iconst 1, 1) := by decide +kernel
theorem dX8_not4_38 : decode cX8_not4 38 = .ok (.isub, 1) := by decide +kernel
theorem dX8_not4_39 : decode cX8_not4 39 = .ok (.putfield 166, 3) := by decide +kernel
theorem dX8_not4_42 : decode cX8_not4 42 = .ok (.iload_n 1, 1) := by decide +kernel
theorem dX8_not4_43 : decode cX8_not4 43 = .ok (.ifCond .ne 7, 3) := by decide +kernel
theorem dX8_not4_46 : decode cX8_not4 46 = .ok (.iconst 1, 1) := by decide +kernel
theorem dX8_not4_47 : decode cX8_not4 47 = .ok (.goto 4, 3) := by decide +kernel
theorem dX8_not4_50 : decode cX8_not4 50 = .ok (.iconst 0, 1) := by decide +kernel
theorem dX8_not4_51 : decode cX8_not4 51 = .ok (.ireturn, 1) := by decide +kernel
theorem dX8_not4_52 : decode cX8_not4 52 = .ok (.aload_n 0, 1) := by decide +kernel
theorem dX8_not4_53 : decode cX8_not4 53 = .ok (.invokevirtual 236, 3) := by decide +kernel
theorem dX8_not4_56 : decode cX8_not4 56 = .ok (.istore_n 1, 1) := by decide +kernel
theorem dX8_not4_57 : decode cX8_not4 57 = .ok (.aload_n 0, 1) := by decide +kernel
theorem dX8_not4_58 : decode cX8_not4 58 = .ok (.bipush 60, 2) := by decide +kernel
theorem dX8_not4_60 : decode cX8_not4 60 = .ok (.invokevirtual 197, 3) := by decide +kernel
theorem dX8_not4_63 : decode cX8_not4 63 = .ok (.ifCond .ne 14, 3) := by decide +kernel
theorem dX8_not4_66 : decode cX8_not4 66 = .ok (.aload_n 0, 1) := by decide +kernel
theorem dX8_not4_67 : decode cX8_not4 67 = .ok (.bipush 61, 2) := by decide +kernel
theorem dX8_not4_69 : decode cX8_not4 69 = .ok (.invokevirtual 197, 3) := by decide +kernel
theorem dX8_not4_72 : decode cX8_not4 72 = .ok (.ifCond .ne 5, 3) := by decide +kernel
theorem dX8_not4_75 : decode cX8_not4 75 = .ok (.iload_n 1, 1) := by decide +kernel
theorem dX8_not4_76 : decode cX8_not4 76 = .ok (.ireturn, 1) := by decide +kernel
theorem dX8_not4_77 : decode cX8_not4 77 = .ok (.aload_n 0, 1) := by decide +kernel
theorem dX8_not4_78 : decode cX8_not4 78 = .ok (.getfield 149, 3) := by decide +kernel
theorem dX8_not4_81 : decode cX8_not4 81 = .ok (.ldc2_w 219, 3) := by decide +kernel
theorem dX8_not4_84 : decode cX8_not4 84 = .ok (.lcmp, 1) := by decide +kernel
theorem dX8_not4_85 : decode cX8_not4 85 = .ok (.ifCond .ne 7, 3) := by decide +kernel
theorem dX8_not4_88 : decode cX8_not4 88 = .ok (.iconst 1, 1) := by decide +kernel
theorem dX8_not4_89 : decode cX8_not4 89 = .ok (.goto 4, 3) := by decide +kernel
theorem dX8_not4_92 : decode cX8_not4 92 = .ok (.iconst 0, 1) := by decide +kernel
theorem dX8_not4_93 : decode cX8_not4 93 = .ok (.istore_n 2, 1) := by decide +kernel
theorem dX8_not4_94 : decode cX8_not4 94 = .ok (.aload_n 0, 1) := by decide +kernel
theorem dX8_not4_95 : decode cX8_not4 95 = .ok (.invokevirtual 172, 3) := by decide +kernel
theorem dX8_not4_98 : decode cX8_not4 98 = .ok (.aload_n 0, 1) := by decide +kernel
theorem dX8_not4_99 : decode cX8_not4 99 = .ok (.invokevirtual 236, 3) := by decide +kernel
theorem dX8_not4_102 : decode cX8_not4 102 = .ok (.istore_n 3, 1) := by decide +kernel
theorem dX8_not4_103 : decode cX8_not4 103 = .ok (.iload_n 2, 1) := by decide +kernel
theorem dX8_not4_104 : decode cX8_not4 104 = .ok (.ifCond .eq 11, 3) := by decide +kernel
theorem dX8_not4_107 : decode cX8_not4 107 = .ok (.iload_n 1, 1) := by decide +kernel
theorem dX8_not4_108 : decode cX8_not4 108 = .ok (.iload_n 3, 1) := by decide +kernel
theorem dX8_not4_109 : decode cX8_not4 109 = .ok (.if_icmp .ge 15, 3) := by decide +kernel
theorem dX8_not4_112 : decode cX8_not4 112 = .ok (.goto 8, 3) := by decide +kernel
theorem dX8_not4_115 : decode cX8_not4 115 = .ok (.iload_n 1, 1) := by decide +kernel
theorem dX8_not4_116 : decode cX8_not4 116 = .ok (.iload_n 3, 1) := by decide +kernel
theorem dX8_not4_117 : decode cX8_not4 117 = .ok (.if_icmp .ne 7, 3) := by decide +kernel
theorem dX8_not4_120 : decode cX8_not4 120 = .ok (.iconst 1, 1) := by decide +kernel
theorem dX8_not4_121 : decode cX8_not4 121 = .ok (.goto 4, 3) := by decide +kernel
theorem dX8_not4_124 : decode cX8_not4 124 = .ok (.iconst 0, 1) := by decide +kernel
theorem dX8_not4_125 : decode cX8_not4 125 = .ok (.ireturn, 1) := by decide +kernel
theorem dX8_both4_0 : decode cX8_both4 0 = .ok (.aload_n 0, 1) := by decide +kernel
theorem dX8_both4_1 : decode cX8_both4 1 = .ok (.invokevirtual 239, 3) := by decide +kernel
theorem dX8_both4_4 : decode cX8_both4 4 = .ok (.istore_n 1, 1) := by decide +kernel
theorem dX8_both4_5 : decode cX8_both4 5 = .ok (.aload_n 0, 1) := by decide +kernel
theorem dX8_both4_6 : decode cX8_both4 6 = .ok (.bipush 97, 2) := by decide +kernel
theorem dX8_both4_8 : decode cX8_both4 8 = .ok (.bipush 110, 2) := by decide +kernel
theorem dX8_both4_10 : decode cX8_both4 10 = .ok (.bipush 100, 2) := by decide +kernel
theorem dX8_both4_12 : decode cX8_both4 12 = .ok (.iconst 0, 1) := by decide +kernel
theorem dX8_both4_13 : decode cX8_both4 13 = .ok (.iconst 0, 1) := by decide +kernel
theorem dX8_both4_14 : decode cX8_both4 14 = .ok (.iconst 0, 1) := by decide +kernel
theorem dX8_both4_15 : decode cX8_both4 15 = .ok (.iconst 0, 1) := by decide +kernel
theorem dX8_both4_16 : decode cX8_both4 16 = .ok (.iconst 0, 1) := by decide +kernel
theorem dX8_both4_17 : decode cX8_both4 17 = .ok (.invokevirtual 175, 3) := by decide +kernel
theorem dX8_both4_20 : decode cX8_both4 20 = .ok (.ifCond .eq 29, 3) := by decide +kernel
theorem dX8_both4_23 : decode cX8_both4 23 = .ok (.aload_n 0, 1) := by decide +kernel
theorem dX8_both4_24 : decode cX8_both4 24 = .ok (.invokevirtual 172, 3) := by decide +kernel
theorem dX8_both4_27 : decode cX8_both4 27 = .ok (.aload_n 0, 1) := by decide +kernel
