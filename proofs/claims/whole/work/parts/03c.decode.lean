theorem dX8_wantBalloon_193 : decode cX8_wantBalloon 193 = .ok (.getfield 38, 3) := by decide +kernel
theorem dX8_wantBalloon_196 : decode cX8_wantBalloon 196 = .ok (.iload 9, 2) := by decide +kernel
theorem dX8_wantBalloon_198 : decode cX8_wantBalloon 198 = .ok (.iconst 1, 1) := by decide +kernel
theorem dX8_wantBalloon_199 : decode cX8_wantBalloon 199 = .ok (.iadd, 1) := by decide +kernel
theorem dX8_wantBalloon_200 : decode cX8_wantBalloon 200 = .ok (.iload_n 3, 1) := by decide +kernel
theorem dX8_wantBalloon_201 : decode cX8_wantBalloon 201 = .ok (.iastore, 1) := by decide +kernel
theorem dX8_wantBalloon_202 : decode cX8_wantBalloon 202 = .ok (.aload_n 0, 1) := by decide +kernel
theorem dX8_wantBalloon_203 : decode cX8_wantBalloon 203 = .ok (.getfield 38, 3) := by decide +kernel
theorem dX8_wantBalloon_206 : decode cX8_wantBalloon 206 = .ok (.iload 9, 2) := by decide +kernel
theorem dX8_wantBalloon_208 : decode cX8_wantBalloon 208 = .ok (.iconst 2, 1) := by decide +kernel
theorem dX8_wantBalloon_209 : decode cX8_wantBalloon 209 = .ok (.iadd, 1) := by decide +kernel
theorem dX8_wantBalloon_210 : decode cX8_wantBalloon 210 = .ok (.iconst 0, 1) := by decide +kernel
theorem dX8_wantBalloon_211 : decode cX8_wantBalloon 211 = .ok (.iastore, 1) := by decide +kernel
theorem dX8_wantBalloon_212 : decode cX8_wantBalloon 212 = .ok (.aload_n 0, 1) := by decide +kernel
theorem dX8_wantBalloon_213 : decode cX8_wantBalloon 213 = .ok (.getfield 38, 3) := by decide +kernel
theorem dX8_wantBalloon_216 : decode cX8_wantBalloon 216 = .ok (.iload 9, 2) := by decide +kernel
theorem dX8_wantBalloon_218 : decode cX8_wantBalloon 218 = .ok (.iconst 3, 1) := by decide +kernel
theorem dX8_wantBalloon_219 : decode cX8_wantBalloon 219 = .ok (.iadd, 1) := by decide +kernel
theorem dX8_wantBalloon_220 : decode cX8_wantBalloon 220 = .ok (.iload 6, 2) := by decide +kernel
theorem dX8_wantBalloon_222 : decode cX8_wantBalloon 222 = .ok (.iastore, 1) := by decide +kernel
theorem dX8_wantBalloon_223 : decode cX8_wantBalloon 223 = .ok (.aload_n 0, 1) := by decide +kernel
theorem dX8_wantBalloon_224 : decode cX8_wantBalloon 224 = .ok (.getfield 38, 3) := by decide +kernel
theorem dX8_wantBalloon_227 : decode cX8_wantBalloon 227 = .ok (.iload 9, 2) := by decide +kernel
theorem dX8_wantBalloon_229 : decode cX8_wantBalloon 229 = .ok (.iconst 4, 1) := by decide +kernel
theorem dX8_wantBalloon_230 : decode cX8_wantBalloon 230 = .ok (.iadd, 1) := by decide +kernel
theorem dX8_wantBalloon_231 : decode cX8_wantBalloon 231 = .ok (.iload 4, 2) := by decide +kernel
theorem dX8_wantBalloon_233 : decode cX8_wantBalloon 233 = .ok (.iastore, 1) := by decide +kernel
theorem dX8_wantBalloon_234 : decode cX8_wantBalloon 234 = .ok (.aload_n 0, 1) := by decide +kernel
theorem dX8_wantBalloon_235 : decode cX8_wantBalloon 235 = .ok (.getfield 38, 3) := by decide +kernel
theorem dX8_wantBalloon_238 : decode cX8_wantBalloon 238 = .ok (.iload 9, 2) := by decide +kernel
theorem dX8_wantBalloon_240 : decode cX8_wantBalloon 240 = .ok (.iconst 5, 1) := by decide +kernel
theorem dX8_wantBalloon_241 : decode cX8_wantBalloon 241 = .ok (.iadd, 1) := by decide +kernel
theorem dX8_wantBalloon_242 : decode cX8_wantBalloon 242 = .ok (.iload 5, 2) := by decide +kernel
theorem dX8_wantBalloon_244 : decode cX8_wantBalloon 244 = .ok (.iastore, 1) := by decide +kernel
theorem dX8_wantBalloon_245 : decode cX8_wantBalloon 245 = .ok (.aload_n 0, 1) := by decide +kernel
theorem dX8_wantBalloon_246 : decode cX8_wantBalloon 246 = .ok (.getfield 38, 3) := by decide +kernel
theorem dX8_wantBalloon_249 : decode cX8_wantBalloon 249 = .ok (.iload 9, 2) := by decide +kernel
theorem dX8_wantBalloon_251 : decode cX8_wantBalloon 251 = .ok (.bipush 6, 2) := by decide +kernel
theorem dX8_wantBalloon_253 : decode cX8_wantBalloon 253 = .ok (.iadd, 1) := by decide +kernel
theorem dX8_wantBalloon_254 : decode cX8_wantBalloon 254 = .ok (.iload 7, 2) := by decide +kernel
theorem dX8_wantBalloon_256 : decode cX8_wantBalloon 256 = .ok (.iastore, 1) := by decide +kernel
theorem dX8_wantBalloon_257 : decode cX8_wantBalloon 257 = .ok (.aload_n 0, 1) := by decide +kernel
theorem dX8_wantBalloon_258 : decode cX8_wantBalloon 258 = .ok (.getfield 38, 3) := by decide +kernel
theorem dX8_wantBalloon_261 : decode cX8_wantBalloon 261 = .ok (.iload 9, 2) := by decide +kernel
theorem dX8_wantBalloon_263 : decode cX8_wantBalloon 263 = .ok (.bipush 7, 2) := by decide +kernel
theorem dX8_wantBalloon_265 : decode cX8_wantBalloon 265 = .ok (.iadd, 1) := by decide +kernel
theorem dX8_wantBalloon_266 : decode cX8_wantBalloon 266 = .ok (.iload 8, 2) := by decide +kernel
theorem dX8_wantBalloon_268 : decode cX8_wantBalloon 268 = .ok (.iastore, 1) := by decide +kernel
theorem dX8_wantBalloon_269 : decode cX8_wantBalloon 269 = .ok (.aload_n 0, 1) := by decide +kernel
theorem dX8_wantBalloon_270 : decode cX8_wantBalloon 270 = .ok (.dup, 1) := by decide +kernel
theorem dX8_wantBalloon_271 : decode cX8_wantBalloon 271 = .ok (.getfield 156, 3) := by decide +kernel
theorem dX8_wantBalloon_274 : decode cX8_wantBalloon 274 = .ok (.iconst 1, 1) := by decide +kernel
theorem dX8_wantBalloon_275 : decode cX8_wantBalloon 275 = .ok (.iadd, 1) := by decide +kernel
theorem dX8_wantBalloon_276 : decode cX8_wantBalloon 276 = .ok (.putfield 156, 3) := by decide +kernel
theorem dX8_wantBalloon_279 : decode cX8_wantBalloon 279 = .ok (.return_, 1) := by decide +kernel
theorem dX8_wantWarmth_0 : decode cX8_wantWarmth 0 = .ok (.aload_n 0, 1) := by decide +kernel
theorem dX8_wantWarmth_1 : decode cX8_wantWarmth 1 = .ok (.invokevirtual 146, 3) := by decide +kernel
theorem dX8_wantWarmth_4 : decode cX8_wantWarmth 4 = .ok (.aload_n 0, 1) := by decide +kernel
theorem dX8_wantWarmth_5 : decode cX8_wantWarmth 5 = .ok (.iconst 0, 1) := by decide +kernel
theorem dX8_wantWarmth_6 : decode cX8_wantWarmth 6 = .ok (.bipush 23, 2) := by decide +kernel
theorem dX8_wantWarmth_8 : decode cX8_wantWarmth 8 = .ok (.invokevirtual 152, 3) := by decide +kernel
theorem dX8_wantWarmth_11 : decode cX8_wantWarmth 11 = .ok (.istore_n 2, 1) := by decide +kernel
theorem dX8_wantWarmth_12 : decode cX8_wantWarmth 12 = .ok (.aload_n 0, 1) := by decide +kernel
theorem dX8_wantWarmth_13 : decode cX8_wantWarmth 13 = .ok (.iconst 0, 1) := by decide +kernel
theorem dX8_wantWarmth_14 : decode cX8_wantWarmth 14 = .ok (.iload_n 1, 1) := by decide +kernel
theorem dX8_wantWarmth_15 : decode cX8_wantWarmth 15 = .ok (.ifCond .eq 8, 3) := by decide +kernel
theorem dX8_wantWarmth_18 : decode cX8_wantWarmth 18 = .ok (.bipush 20, 2) := by decide +kernel
theorem dX8_wantWarmth_20 : decode cX8_wantWarmth 20 = .ok (.goto 5, 3) := by decide +kernel
theorem dX8_wantWarmth_23 : decode cX8_wantWarmth 23 = .ok (.bipush 40, 2) := by decide +kernel
theorem dX8_wantWarmth_25 : decode cX8_wantWarmth 25 = .ok (.invokevirtual 152, 3) := by decide +kernel
theorem dX8_wantWarmth_28 : decode cX8_wantWarmth 28 = .ok (.istore_n 3, 1) := by decide +kernel
theorem dX8_wantWarmth_29 : decode cX8_wantWarmth 29 = .ok (.aload_n 0, 1) := by decide +kernel
theorem dX8_wantWarmth_30 : decode cX8_wantWarmth 30 = .ok (.invokevirtual 175, 3) := by decide +kernel
theorem dX8_wantWarmth_33 : decode cX8_wantWarmth 33 = .ok (.aload_n 0, 1) := by decide +kernel
theorem dX8_wantWarmth_34 : decode cX8_wantWarmth 34 = .ok (.getfield 142, 3) := by decide +kernel
theorem dX8_wantWarmth_37 : decode cX8_wantWarmth 37 = .ok (.ifCond .eq 20, 3) := by decide +kernel
theorem dX8_wantWarmth_40 : decode cX8_wantWarmth 40 = .ok (.aload_n 0, 1) := by decide +kernel
theorem dX8_wantWarmth_41 : decode cX8_wantWarmth 41 = .ok (.getfield 41, 3) := by decide +kernel
theorem dX8_wantWarmth_44 : decode cX8_wantWarmth 44 = .ok (.iload_n 2, 1) := by decide +kernel
theorem dX8_wantWarmth_45 : decode cX8_wantWarmth 45 = .ok (.iload_n 1, 1) := by decide +kernel
theorem dX8_wantWarmth_46 : decode cX8_wantWarmth 46 = .ok (.ifCond .eq 9, 3) := by decide +kernel
theorem dX8_wantWarmth_49 : decode cX8_wantWarmth 49 = .ok (.iconst 0, 1) := by decide +kernel
theorem dX8_wantWarmth_50 : decode cX8_wantWarmth 50 = .ok (.iload_n 3, 1) := by decide +kernel
theorem dX8_wantWarmth_51 : decode cX8_wantWarmth 51 = .ok (.isub, 1) := by decide +kernel
theorem dX8_wantWarmth_52 : decode cX8_wantWarmth 52 = .ok (.goto 4, 3) := by decide +kernel
theorem dX8_wantWarmth_55 : decode cX8_wantWarmth 55 = .ok (.iload_n 3, 1) := by decide +kernel
theorem dX8_wantWarmth_56 : decode cX8_wantWarmth 56 = .ok (.iastore, 1) := by decide +kernel
theorem dX8_wantWarmth_57 : decode cX8_wantWarmth 57 = .ok (.return_, 1) := by decide +kernel
theorem dX8_wantClause_0 : decode cX8_wantClause 0 = .ok (.aload_n 0, 1) := by decide +kernel
theorem dX8_wantClause_1 : decode cX8_wantClause 1 = .ok (.invokevirtual 178, 3) := by decide +kernel
theorem dX8_wantClause_4 : decode cX8_wantClause 4 = .ok (.ifCond .lt 14, 3) := by decide +kernel
theorem dX8_wantClause_7 : decode cX8_wantClause 7 = .ok (.aload_n 0, 1) := by decide +kernel
theorem dX8_wantClause_8 : decode cX8_wantClause 8 = .ok (.aload_n 0, 1) := by decide +kernel
theorem dX8_wantClause_9 : decode cX8_wantClause 9 = .ok (.invokevirtual 178, 3) := by decide +kernel
theorem dX8_wantClause_12 : decode cX8_wantClause 12 = .ok (.invokevirtual 182, 3) := by decide +kernel
theorem dX8_wantClause_15 : decode cX8_wantClause 15 = .ok (.goto 74, 3) := by decide +kernel
theorem dX8_wantClause_18 : decode cX8_wantClause 18 = .ok (.aload_n 0, 1) := by decide +kernel
theorem dX8_wantClause_19 : decode cX8_wantClause 19 = .ok (.ldc2_w 186, 3) := by decide +kernel
theorem dX8_wantClause_22 : decode cX8_wantClause 22 = .ok (.invokevirtual 128, 3) := by decide +kernel
theorem dX8_wantClause_25 : decode cX8_wantClause 25 = .ok (.ifCond .ne 13, 3) := by decide +kernel
theorem dX8_wantClause_28 : decode cX8_wantClause 28 = .ok (.aload_n 0, 1) := by decide +kernel
theorem dX8_wantClause_29 : decode cX8_wantClause 29 = .ok (.ldc2_w 188, 3) := by decide +kernel
theorem dX8_wantClause_32 : decode cX8_wantClause 32 = .ok (.invokevirtual 128, 3) := by decide +kernel
theorem dX8_wantClause_35 : decode cX8_wantClause 35 = .ok (.ifCond .eq 17, 3) := by decide +kernel
theorem dX8_wantClause_38 : decode cX8_wantClause 38 = .ok (.aload_n 0, 1) := by decide +kernel
theorem dX8_wantClause_39 : decode cX8_wantClause 39 = .ok (.aload_n 0, 1) := by decide +kernel
theorem dX8_wantClause_40 : decode cX8_wantClause 40 = .ok (.ldc2_w 188, 3) := by decide +kernel
theorem dX8_wantClause_43 : decode cX8_wantClause 43 = .ok (.invokevirtual 128, 3) := by decide +kernel
theorem dX8_wantClause_46 : decode cX8_wantClause 46 = .ok (.invokevirtual 190, 3) := by decide +kernel
theorem dX8_wantClause_49 : decode cX8_wantClause 49 = .ok (.goto 40, 3) := by decide +kernel
theorem dX8_wantClause_52 : decode cX8_wantClause 52 = .ok (.aload_n 0, 1) := by decide +kernel
theorem dX8_wantClause_53 : decode cX8_wantClause 53 = .ok (.ldc2_w 194, 3) := by decide +kernel
theorem dX8_wantClause_56 : decode cX8_wantClause 56 = .ok (.invokevirtual 128, 3) := by decide +kernel
theorem dX8_wantClause_59 : decode cX8_wantClause 59 = .ok (.ifCond .eq 25, 3) := by decide +kernel
theorem dX8_wantClause_62 : decode cX8_wantClause 62 = .ok (.aload_n 0, 1) := by decide +kernel
theorem dX8_wantClause_63 : decode cX8_wantClause 63 = .ok (.invokevirtual 146, 3) := by decide +kernel
theorem dX8_wantClause_66 : decode cX8_wantClause 66 = .ok (.aload_n 0, 1) := by decide +kernel
theorem dX8_wantClause_67 : decode cX8_wantClause 67 = .ok (.aload_n 0, 1) := by decide +kernel
theorem dX8_wantClause_68 : decode cX8_wantClause 68 = .ok (.iconst 1, 1) := by decide +kernel
theorem dX8_wantClause_69 : decode cX8_wantClause 69 = .ok (.bipush 20, 2) := by decide +kernel
theorem dX8_wantClause_71 : decode cX8_wantClause 71 = .ok (.invokevirtual 152, 3) := by decide +kernel
theorem dX8_wantClause_74 : decode cX8_wantClause 74 = .ok (.putfield 196, 3) := by decide +kernel
theorem dX8_wantClause_77 : decode cX8_wantClause 77 = .ok (.aload_n 0, 1) := by decide +kernel
theorem dX8_wantClause_78 : decode cX8_wantClause 78 = .ok (.invokevirtual 175, 3) := by decide +kernel
theorem dX8_wantClause_81 : decode cX8_wantClause 81 = .ok (.goto 8, 3) := by decide +kernel
theorem dX8_wantClause_84 : decode cX8_wantClause 84 = .ok (.aload_n 0, 1) := by decide +kernel
theorem dX8_wantClause_85 : decode cX8_wantClause 85 = .ok (.iconst 0, 1) := by decide +kernel
theorem dX8_wantClause_86 : decode cX8_wantClause 86 = .ok (.putfield 142, 3) := by decide +kernel
theorem dX8_wantClause_89 : decode cX8_wantClause 89 = .ok (.return_, 1) := by decide +kernel
theorem dX8_town_0 : decode cX8_town 0 = .ok (.aload_n 0, 1) := by decide +kernel
theorem dX8_town_1 : decode cX8_town 1 = .ok (.iconst 0, 1) := by decide +kernel
theorem dX8_town_2 : decode cX8_town 2 = .ok (.putfield 93, 3) := by decide +kernel
theorem dX8_town_5 : decode cX8_town 5 = .ok (.aload_n 0, 1) := by decide +kernel
theorem dX8_town_6 : decode cX8_town 6 = .ok (.iconst 1, 1) := by decide +kernel
theorem dX8_town_7 : decode cX8_town 7 = .ok (.putfield 142, 3) := by decide +kernel
theorem dX8_town_10 : decode cX8_town 10 = .ok (.aload_n 0, 1) := by decide +kernel
theorem dX8_town_11 : decode cX8_town 11 = .ok (.iconst 0, 1) := by decide +kernel
theorem dX8_town_12 : decode cX8_town 12 = .ok (.putfield 156, 3) := by decide +kernel
theorem dX8_town_15 : decode cX8_town 15 = .ok (.aload_n 0, 1) := by decide +kernel
theorem dX8_town_16 : decode cX8_town 16 = .ok (.iconst 3, 1) := by decide +kernel
theorem dX8_town_17 : decode cX8_town 17 = .ok (.putfield 196, 3) := by decide +kernel
theorem dX8_town_20 : decode cX8_town 20 = .ok (.iconst 0, 1) := by decide +kernel
theorem dX8_town_21 : decode cX8_town 21 = .ok (.istore_n 1, 1) := by decide +kernel
theorem dX8_town_22 : decode cX8_town 22 = .ok (.iload_n 1, 1) := by decide +kernel
theorem dX8_town_23 : decode cX8_town 23 = .ok (.bipush 24, 2) := by decide +kernel
theorem dX8_town_25 : decode cX8_town 25 = .ok (.if_icmp .ge 16, 3) := by decide +kernel
theorem dX8_town_28 : decode cX8_town 28 = .ok (.aload_n 0, 1) := by decide +kernel
theorem dX8_town_29 : decode cX8_town 29 = .ok (.getfield 41, 3) := by decide +kernel
theorem dX8_town_32 : decode cX8_town 32 = .ok (.iload_n 1, 1) := by decide +kernel
theorem dX8_town_33 : decode cX8_town 33 = .ok (.iconst 0, 1) := by decide +kernel
theorem dX8_town_34 : decode cX8_town 34 = .ok (.iastore, 1) := by decide +kernel
theorem dX8_town_35 : decode cX8_town 35 = .ok (.iinc 1 1, 3) := by decide +kernel
theorem dX8_town_38 : decode cX8_town 38 = .ok (.goto (-16), 3) := by decide +kernel
theorem dX8_town_41 : decode cX8_town 41 = .ok (.aload_n 0, 1) := by decide +kernel
theorem dX8_town_42 : decode cX8_town 42 = .ok (.invokevirtual 146, 3) := by decide +kernel
theorem dX8_town_45 : decode cX8_town 45 = .ok (.aload_n 0, 1) := by decide +kernel
theorem dX8_town_46 : decode cX8_town 46 = .ok (.getfield 142, 3) := by decide +kernel
theorem dX8_town_49 : decode cX8_town 49 = .ok (.ifCond .eq 17, 3) := by decide +kernel
theorem dX8_town_52 : decode cX8_town 52 = .ok (.aload_n 0, 1) := by decide +kernel
theorem dX8_town_53 : decode cX8_town 53 = .ok (.getfield 110, 3) := by decide +kernel
theorem dX8_town_56 : decode cX8_town 56 = .ok (.ifCond .eq 10, 3) := by decide +kernel
theorem dX8_town_59 : decode cX8_town 59 = .ok (.aload_n 0, 1) := by decide +kernel
theorem dX8_town_60 : decode cX8_town 60 = .ok (.invokevirtual 199, 3) := by decide +kernel
theorem dX8_town_63 : decode cX8_town 63 = .ok (.goto (-18), 3) := by decide +kernel
theorem dX8_town_66 : decode cX8_town 66 = .ok (.aload_n 0, 1) := by decide +kernel
theorem dX8_town_67 : decode cX8_town 67 = .ok (.iconst 0, 1) := by decide +kernel
theorem dX8_town_68 : decode cX8_town 68 = .ok (.putfield 88, 3) := by decide +kernel
theorem dX8_town_71 : decode cX8_town 71 = .ok (.aload_n 0, 1) := by decide +kernel
theorem dX8_town_72 : decode cX8_town 72 = .ok (.getfield 142, 3) := by decide +kernel
theorem dX8_town_75 : decode cX8_town 75 = .ok (.ifCond .ne 11, 3) := by decide +kernel
theorem dX8_town_78 : decode cX8_town 78 = .ok (.bipush (-100), 2) := by decide +kernel
theorem dX8_town_80 : decode cX8_town 80 = .ok (.aload_n 0, 1) := by decide +kernel
theorem dX8_town_81 : decode cX8_town 81 = .ok (.getfield 96, 3) := by decide +kernel
theorem dX8_town_84 : decode cX8_town 84 = .ok (.isub, 1) := by decide +kernel
theorem dX8_town_85 : decode cX8_town 85 = .ok (.ireturn, 1) := by decide +kernel
theorem dX8_town_86 : decode cX8_town 86 = .ok (.aload_n 0, 1) := by decide +kernel
theorem dX8_town_87 : decode cX8_town 87 = .ok (.aload_n 0, 1) := by decide +kernel
theorem dX8_town_88 : decode cX8_town 88 = .ok (.getfield 156, 3) := by decide +kernel
theorem dX8_town_91 : decode cX8_town 91 = .ok (.putfield 82, 3) := by decide +kernel
theorem dX8_town_94 : decode cX8_town 94 = .ok (.aload_n 0, 1) := by decide +kernel
theorem dX8_town_95 : decode cX8_town 95 = .ok (.aload_n 0, 1) := by decide +kernel
theorem dX8_town_96 : decode cX8_town 96 = .ok (.getfield 196, 3) := by decide +kernel
theorem dX8_town_99 : decode cX8_town 99 = .ok (.putfield 13, 3) := by decide +kernel
theorem dX8_town_102 : decode cX8_town 102 = .ok (.iconst 0, 1) := by decide +kernel
theorem dX8_town_103 : decode cX8_town 103 = .ok (.istore_n 1, 1) := by decide +kernel
theorem dX8_town_104 : decode cX8_town 104 = .ok (.iload_n 1, 1) := by decide +kernel
theorem dX8_town_105 : decode cX8_town 105 = .ok (.bipush 24, 2) := by decide +kernel
theorem dX8_town_107 : decode cX8_town 107 = .ok (.if_icmp .ge 21, 3) := by decide +kernel
theorem dX8_town_110 : decode cX8_town 110 = .ok (.aload_n 0, 1) := by decide +kernel
theorem dX8_town_111 : decode cX8_town 111 = .ok (.getfield 7, 3) := by decide +kernel
theorem dX8_town_114 : decode cX8_town 114 = .ok (.iload_n 1, 1) := by decide +kernel
theorem dX8_town_115 : decode cX8_town 115 = .ok (.aload_n 0, 1) := by decide +kernel
theorem dX8_town_116 : decode cX8_town 116 = .ok (.getfield 41, 3) := by decide +kernel
theorem dX8_town_119 : decode cX8_town 119 = .ok (.iload_n 1, 1) := by decide +kernel
theorem dX8_town_120 : decode cX8_town 120 = .ok (.iaload, 1) := by decide +kernel
theorem dX8_town_121 : decode cX8_town 121 = .ok (.iastore, 1) := by decide +kernel
theorem dX8_town_122 : decode cX8_town 122 = .ok (.iinc 1 1, 3) := by decide +kernel
theorem dX8_town_125 : decode cX8_town 125 = .ok (.goto (-21), 3) := by decide +kernel
theorem dX8_town_128 : decode cX8_town 128 = .ok (.iconst 0, 1) := by decide +kernel
theorem dX8_town_129 : decode cX8_town 129 = .ok (.istore_n 1, 1) := by decide +kernel
theorem dX8_town_130 : decode cX8_town 130 = .ok (.iload_n 1, 1) := by decide +kernel
theorem dX8_town_131 : decode cX8_town 131 = .ok (.bipush 6, 2) := by decide +kernel
theorem dX8_town_133 : decode cX8_town 133 = .ok (.if_icmp .ge 33, 3) := by decide +kernel
theorem dX8_town_136 : decode cX8_town 136 = .ok (.aload_n 0, 1) := by decide +kernel
theorem dX8_town_137 : decode cX8_town 137 = .ok (.getfield 17, 3) := by decide +kernel
theorem dX8_town_140 : decode cX8_town 140 = .ok (.iload_n 1, 1) := by decide +kernel
theorem dX8_town_141 : decode cX8_town 141 = .ok (.aload_n 0, 1) := by decide +kernel
theorem dX8_town_142 : decode cX8_town 142 = .ok (.getfield 32, 3) := by decide +kernel
theorem dX8_town_145 : decode cX8_town 145 = .ok (.iload_n 1, 1) := by decide +kernel
theorem dX8_town_146 : decode cX8_town 146 = .ok (.iaload, 1) := by decide +kernel
theorem dX8_town_147 : decode cX8_town 147 = .ok (.iastore, 1) := by decide +kernel
theorem dX8_town_148 : decode cX8_town 148 = .ok (.aload_n 0, 1) := by decide +kernel
theorem dX8_town_149 : decode cX8_town 149 = .ok (.getfield 20, 3) := by decide +kernel
theorem dX8_town_152 : decode cX8_town 152 = .ok (.iload_n 1, 1) := by decide +kernel
theorem dX8_town_153 : decode cX8_town 153 = .ok (.aload_n 0, 1) := by decide +kernel
theorem dX8_town_154 : decode cX8_town 154 = .ok (.getfield 35, 3) := by decide +kernel
theorem dX8_town_157 : decode cX8_town 157 = .ok (.iload_n 1, 1) := by decide +kernel
theorem dX8_town_158 : decode cX8_town 158 = .ok (.iaload, 1) := by decide +kernel
theorem dX8_town_159 : decode cX8_town 159 = .ok (.iastore, 1) := by decide +kernel
theorem dX8_town_160 : decode cX8_town 160 = .ok (.iinc 1 1, 3) := by decide +kernel
theorem dX8_town_163 : decode cX8_town 163 = .ok (.goto (-33), 3) := by decide +kernel
theorem dX8_town_166 : decode cX8_town 166 = .ok (.iconst 1, 1) := by decide +kernel
theorem dX8_town_167 : decode cX8_town 167 = .ok (.istore_n 1, 1) := by decide +kernel
theorem dX8_town_168 : decode cX8_town 168 = .ok (.iload_n 1, 1) := by decide +kernel
theorem dX8_town_169 : decode cX8_town 169 = .ok (.bipush 43, 2) := by decide +kernel
theorem dX8_town_171 : decode cX8_town 171 = .ok (.if_icmp .ge 21, 3) := by decide +kernel
theorem dX8_town_174 : decode cX8_town 174 = .ok (.aload_n 0, 1) := by decide +kernel
theorem dX8_town_175 : decode cX8_town 175 = .ok (.getfield 23, 3) := by decide +kernel
theorem dX8_town_178 : decode cX8_town 178 = .ok (.iload_n 1, 1) := by decide +kernel
theorem dX8_town_179 : decode cX8_town 179 = .ok (.aload_n 0, 1) := by decide +kernel
theorem dX8_town_180 : decode cX8_town 180 = .ok (.getfield 38, 3) := by decide +kernel
theorem dX8_town_183 : decode cX8_town 183 = .ok (.iload_n 1, 1) := by decide +kernel
theorem dX8_town_184 : decode cX8_town 184 = .ok (.iaload, 1) := by decide +kernel
theorem dX8_town_185 : decode cX8_town 185 = .ok (.iastore, 1) := by decide +kernel
theorem dX8_town_186 : decode cX8_town 186 = .ok (.iinc 1 1, 3) := by decide +kernel
theorem dX8_town_189 : decode cX8_town 189 = .ok (.goto (-21), 3) := by decide +kernel
theorem dX8_town_192 : decode cX8_town 192 = .ok (.aload_n 0, 1) := by decide +kernel
theorem dX8_town_193 : decode cX8_town 193 = .ok (.getfield 23, 3) := by decide +kernel
theorem dX8_town_196 : decode cX8_town 196 = .ok (.iconst 0, 1) := by decide +kernel
theorem dX8_town_197 : decode cX8_town 197 = .ok (.iconst 0, 1) := by decide +kernel
theorem dX8_town_198 : decode cX8_town 198 = .ok (.iastore, 1) := by decide +kernel
theorem dX8_town_199 : decode cX8_town 199 = .ok (.aload_n 0, 1) := by decide +kernel
theorem dX8_town_200 : decode cX8_town 200 = .ok (.iconst 0, 1) := by decide +kernel
theorem dX8_town_201 : decode cX8_town 201 = .ok (.putfield 202, 3) := by decide +kernel
theorem dX8_town_204 : decode cX8_town 204 = .ok (.aload_n 0, 1) := by decide +kernel
theorem dX8_town_205 : decode cX8_town 205 = .ok (.getfield 82, 3) := by decide +kernel
theorem dX8_town_208 : decode cX8_town 208 = .ok (.ireturn, 1) := by decide +kernel
theorem dX8_isWarmth_0 : decode cX8_isWarmth 0 = .ok (.iload_n 0, 1) := by decide +kernel
theorem dX8_isWarmth_1 : decode cX8_isWarmth 1 = .ok (.bipush (-20), 2) := by decide +kernel
theorem dX8_isWarmth_3 : decode cX8_isWarmth 3 = .ok (.bipush 40, 2) := by decide +kernel
theorem dX8_isWarmth_5 : decode cX8_isWarmth 5 = .ok (.invokestatic 78, 3) := by decide +kernel
theorem dX8_isWarmth_8 : decode cX8_isWarmth 8 = .ok (.ireturn, 1) := by decide +kernel
theorem dX8_warmth_0 : decode cX8_warmth 0 = .ok (.iload_n 1, 1) := by decide +kernel
theorem dX8_warmth_1 : decode cX8_warmth 1 = .ok (.invokestatic 205, 3) := by decide +kernel
theorem dX8_warmth_4 : decode cX8_warmth 4 = .ok (.ifCond .eq 15, 3) := by decide +kernel
theorem dX8_warmth_7 : decode cX8_warmth 7 = .ok (.bipush 100, 2) := by decide +kernel
theorem dX8_warmth_9 : decode cX8_warmth 9 = .ok (.aload_n 0, 1) := by decide +kernel
theorem dX8_warmth_10 : decode cX8_warmth 10 = .ok (.getfield 7, 3) := by decide +kernel
theorem dX8_warmth_13 : decode cX8_warmth 13 = .ok (.iload_n 1, 1) := by decide +kernel
theorem dX8_warmth_14 : decode cX8_warmth 14 = .ok (.iaload, 1) := by decide +kernel
theorem dX8_warmth_15 : decode cX8_warmth 15 = .ok (.iadd, 1) := by decide +kernel
theorem dX8_warmth_16 : decode cX8_warmth 16 = .ok (.goto 4, 3) := by decide +kernel
theorem dX8_warmth_19 : decode cX8_warmth 19 = .ok (.iconst (-1), 1) := by decide +kernel
theorem dX8_warmth_20 : decode cX8_warmth 20 = .ok (.ireturn, 1) := by decide +kernel
theorem dX8_warm_0 : decode cX8_warm 0 = .ok (.iload_n 1, 1) := by decide +kernel
theorem dX8_warm_1 : decode cX8_warm 1 = .ok (.invokestatic 205, 3) := by decide +kernel
theorem dX8_warm_4 : decode cX8_warm 4 = .ok (.ifCond .eq 10, 3) := by decide +kernel
theorem dX8_warm_7 : decode cX8_warm 7 = .ok (.iload_n 2, 1) := by decide +kernel
theorem dX8_warm_8 : decode cX8_warm 8 = .ok (.invokestatic 208, 3) := by decide +kernel
theorem dX8_warm_11 : decode cX8_warm 11 = .ok (.ifCond .ne 5, 3) := by decide +kernel
theorem dX8_warm_14 : decode cX8_warm 14 = .ok (.iconst (-1), 1) := by decide +kernel
theorem dX8_warm_15 : decode cX8_warm 15 = .ok (.ireturn, 1) := by decide +kernel
theorem dX8_warm_16 : decode cX8_warm 16 = .ok (.aload_n 0, 1) := by decide +kernel
theorem dX8_warm_17 : decode cX8_warm 17 = .ok (.getfield 7, 3) := by decide +kernel
theorem dX8_warm_20 : decode cX8_warm 20 = .ok (.iload_n 1, 1) := by decide +kernel
theorem dX8_warm_21 : decode cX8_warm 21 = .ok (.iaload, 1) := by decide +kernel
theorem dX8_warm_22 : decode cX8_warm 22 = .ok (.istore_n 3, 1) := by decide +kernel
theorem dX8_warm_23 : decode cX8_warm 23 = .ok (.aload_n 0, 1) := by decide +kernel
theorem dX8_warm_24 : decode cX8_warm 24 = .ok (.getfield 7, 3) := by decide +kernel
theorem dX8_warm_27 : decode cX8_warm 27 = .ok (.iload_n 1, 1) := by decide +kernel
theorem dX8_warm_28 : decode cX8_warm 28 = .ok (.iload_n 2, 1) := by decide +kernel
theorem dX8_warm_29 : decode cX8_warm 29 = .ok (.iastore, 1) := by decide +kernel
theorem dX8_warm_30 : decode cX8_warm 30 = .ok (.bipush 100, 2) := by decide +kernel
theorem dX8_warm_32 : decode cX8_warm 32 = .ok (.iload_n 3, 1) := by decide +kernel
theorem dX8_warm_33 : decode cX8_warm 33 = .ok (.iadd, 1) := by decide +kernel
theorem dX8_warm_34 : decode cX8_warm 34 = .ok (.ireturn, 1) := by decide +kernel
theorem dX8_gap_0 : decode cX8_gap 0 = .ok (.iload_n 1, 1) := by decide +kernel
theorem dX8_gap_1 : decode cX8_gap 1 = .ok (.iconst 1, 1) := by decide +kernel
theorem dX8_gap_2 : decode cX8_gap 2 = .ok (.bipush 20, 2) := by decide +kernel
theorem dX8_gap_4 : decode cX8_gap 4 = .ok (.invokestatic 78, 3) := by decide +kernel
theorem dX8_gap_7 : decode cX8_gap 7 = .ok (.ifCond .ne 5, 3) := by decide +kernel
theorem dX8_gap_10 : decode cX8_gap 10 = .ok (.iconst (-1), 1) := by decide +kernel
theorem dX8_gap_11 : decode cX8_gap 11 = .ok (.ireturn, 1) := by decide +kernel
theorem dX8_gap_12 : decode cX8_gap 12 = .ok (.aload_n 0, 1) := by decide +kernel
theorem dX8_gap_13 : decode cX8_gap 13 = .ok (.getfield 13, 3) := by decide +kernel
theorem dX8_gap_16 : decode cX8_gap 16 = .ok (.istore_n 2, 1) := by decide +kernel
theorem dX8_gap_17 : decode cX8_gap 17 = .ok (.aload_n 0, 1) := by decide +kernel
theorem dX8_gap_18 : decode cX8_gap 18 = .ok (.iload_n 1, 1) := by decide +kernel
theorem dX8_gap_19 : decode cX8_gap 19 = .ok (.putfield 13, 3) := by decide +kernel
theorem dX8_gap_22 : decode cX8_gap 22 = .ok (.iload_n 2, 1) := by decide +kernel
theorem dX8_gap_23 : decode cX8_gap 23 = .ok (.ireturn, 1) := by decide +kernel
theorem dX8_balloon_0 : decode cX8_balloon 0 = .ok (.iload_n 1, 1) := by decide +kernel
theorem dX8_balloon_1 : decode cX8_balloon 1 = .ok (.iload_n 2, 1) := by decide +kernel
theorem dX8_balloon_2 : decode cX8_balloon 2 = .ok (.invokestatic 211, 3) := by decide +kernel
theorem dX8_balloon_5 : decode cX8_balloon 5 = .ok (.ifCond .eq 12, 3) := by decide +kernel
theorem dX8_balloon_8 : decode cX8_balloon 8 = .ok (.iload_n 3, 1) := by decide +kernel
theorem dX8_balloon_9 : decode cX8_balloon 9 = .ok (.iconst 0, 1) := by decide +kernel
theorem dX8_balloon_10 : decode cX8_balloon 10 = .ok (.iconst 5, 1) := by decide +kernel
theorem dX8_balloon_11 : decode cX8_balloon 11 = .ok (.invokestatic 78, 3) := by decide +kernel
theorem dX8_balloon_14 : decode cX8_balloon 14 = .ok (.ifCond .ne 5, 3) := by decide +kernel
theorem dX8_balloon_17 : decode cX8_balloon 17 = .ok (.iconst (-1), 1) := by decide +kernel
theorem dX8_balloon_18 : decode cX8_balloon 18 = .ok (.ireturn, 1) := by decide +kernel
theorem dX8_balloon_19 : decode cX8_balloon 19 = .ok (.aload_n 0, 1) := by decide +kernel
theorem dX8_balloon_20 : decode cX8_balloon 20 = .ok (.getfield 82, 3) := by decide +kernel
theorem dX8_balloon_23 : decode cX8_balloon 23 = .ok (.bipush 6, 2) := by decide +kernel
theorem dX8_balloon_25 : decode cX8_balloon 25 = .ok (.if_icmp .ne 6, 3) := by decide +kernel
theorem dX8_balloon_28 : decode cX8_balloon 28 = .ok (.bipush (-2), 2) := by decide +kernel
theorem dX8_balloon_30 : decode cX8_balloon 30 = .ok (.ireturn, 1) := by decide +kernel
theorem dX8_balloon_31 : decode cX8_balloon 31 = .ok (.aload_n 0, 1) := by decide +kernel
theorem dX8_balloon_32 : decode cX8_balloon 32 = .ok (.getfield 82, 3) := by decide +kernel
theorem dX8_balloon_35 : decode cX8_balloon 35 = .ok (.istore 4, 2) := by decide +kernel
theorem dX8_balloon_37 : decode cX8_balloon 37 = .ok (.aload_n 0, 1) := by decide +kernel
theorem dX8_balloon_38 : decode cX8_balloon 38 = .ok (.getfield 17, 3) := by decide +kernel
theorem dX8_balloon_41 : decode cX8_balloon 41 = .ok (.iload 4, 2) := by decide +kernel
theorem dX8_balloon_43 : decode cX8_balloon 43 = .ok (.iload_n 1, 1) := by decide +kernel
theorem dX8_balloon_44 : decode cX8_balloon 44 = .ok (.iastore, 1) := by decide +kernel
theorem dX8_balloon_45 : decode cX8_balloon 45 = .ok (.aload_n 0, 1) := by decide +kernel
theorem dX8_balloon_46 : decode cX8_balloon 46 = .ok (.getfield 20, 3) := by decide +kernel
theorem dX8_balloon_49 : decode cX8_balloon 49 = .ok (.iload 4, 2) := by decide +kernel
theorem dX8_balloon_51 : decode cX8_balloon 51 = .ok (.iload_n 2, 1) := by decide +kernel
theorem dX8_balloon_52 : decode cX8_balloon 52 = .ok (.iastore, 1) := by decide +kernel
theorem dX8_balloon_53 : decode cX8_balloon 53 = .ok (.aload_n 0, 1) := by decide +kernel
theorem dX8_balloon_54 : decode cX8_balloon 54 = .ok (.iload 4, 2) := by decide +kernel
theorem dX8_balloon_56 : decode cX8_balloon 56 = .ok (.iconst 1, 1) := by decide +kernel
theorem dX8_balloon_57 : decode cX8_balloon 57 = .ok (.iload_n 3, 1) := by decide +kernel
theorem dX8_balloon_58 : decode cX8_balloon 58 = .ok (.invokevirtual 215, 3) := by decide +kernel
theorem dX8_balloon_61 : decode cX8_balloon 61 = .ok (.aload_n 0, 1) := by decide +kernel
theorem dX8_balloon_62 : decode cX8_balloon 62 = .ok (.iload 4, 2) := by decide +kernel
theorem dX8_balloon_64 : decode cX8_balloon 64 = .ok (.iconst 2, 1) := by decide +kernel
theorem dX8_balloon_65 : decode cX8_balloon 65 = .ok (.iconst 0, 1) := by decide +kernel
theorem dX8_balloon_66 : decode cX8_balloon 66 = .ok (.invokevirtual 215, 3) := by decide +kernel
theorem dX8_balloon_69 : decode cX8_balloon 69 = .ok (.aload_n 0, 1) := by decide +kernel
theorem dX8_balloon_70 : decode cX8_balloon 70 = .ok (.iload 4, 2) := by decide +kernel
theorem dX8_balloon_72 : decode cX8_balloon 72 = .ok (.iconst 3, 1) := by decide +kernel
theorem dX8_balloon_73 : decode cX8_balloon 73 = .ok (.bipush 50, 2) := by decide +kernel
theorem dX8_balloon_75 : decode cX8_balloon 75 = .ok (.invokevirtual 215, 3) := by decide +kernel
theorem dX8_balloon_78 : decode cX8_balloon 78 = .ok (.aload_n 0, 1) := by decide +kernel
theorem dX8_balloon_79 : decode cX8_balloon 79 = .ok (.iload 4, 2) := by decide +kernel
theorem dX8_balloon_81 : decode cX8_balloon 81 = .ok (.iconst 4, 1) := by decide +kernel
theorem dX8_balloon_82 : decode cX8_balloon 82 = .ok (.bipush 100, 2) := by decide +kernel
theorem dX8_balloon_84 : decode cX8_balloon 84 = .ok (.invokevirtual 215, 3) := by decide +kernel
theorem dX8_balloon_87 : decode cX8_balloon 87 = .ok (.aload_n 0, 1) := by decide +kernel
theorem dX8_balloon_88 : decode cX8_balloon 88 = .ok (.iload 4, 2) := by decide +kernel
theorem dX8_balloon_90 : decode cX8_balloon 90 = .ok (.iconst 5, 1) := by decide +kernel
theorem dX8_balloon_91 : decode cX8_balloon 91 = .ok (.bipush 50, 2) := by decide +kernel
theorem dX8_balloon_93 : decode cX8_balloon 93 = .ok (.invokevirtual 215, 3) := by decide +kernel
theorem dX8_balloon_96 : decode cX8_balloon 96 = .ok (.aload_n 0, 1) := by decide +kernel
theorem dX8_balloon_97 : decode cX8_balloon 97 = .ok (.iload 4, 2) := by decide +kernel
theorem dX8_balloon_99 : decode cX8_balloon 99 = .ok (.bipush 6, 2) := by decide +kernel
theorem dX8_balloon_101 : decode cX8_balloon 101 = .ok (.bipush 20, 2) := by decide +kernel
theorem dX8_balloon_103 : decode cX8_balloon 103 = .ok (.invokevirtual 215, 3) := by decide +kernel
theorem dX8_balloon_106 : decode cX8_balloon 106 = .ok (.aload_n 0, 1) := by decide +kernel
theorem dX8_balloon_107 : decode cX8_balloon 107 = .ok (.iload 4, 2) := by decide +kernel
theorem dX8_balloon_109 : decode cX8_balloon 109 = .ok (.bipush 7, 2) := by decide +kernel
theorem dX8_balloon_111 : decode cX8_balloon 111 = .ok (.iconst 1, 1) := by decide +kernel
theorem dX8_balloon_112 : decode cX8_balloon 112 = .ok (.invokevirtual 215, 3) := by decide +kernel
theorem dX8_balloon_115 : decode cX8_balloon 115 = .ok (.aload_n 0, 1) := by decide +kernel
theorem dX8_balloon_116 : decode cX8_balloon 116 = .ok (.dup, 1) := by decide +kernel
theorem dX8_balloon_117 : decode cX8_balloon 117 = .ok (.getfield 82, 3) := by decide +kernel
theorem dX8_balloon_120 : decode cX8_balloon 120 = .ok (.iconst 1, 1) := by decide +kernel
theorem dX8_balloon_121 : decode cX8_balloon 121 = .ok (.iadd, 1) := by decide +kernel
theorem dX8_balloon_122 : decode cX8_balloon 122 = .ok (.putfield 82, 3) := by decide +kernel
theorem dX8_balloon_125 : decode cX8_balloon 125 = .ok (.iload 4, 2) := by decide +kernel
theorem dX8_balloon_127 : decode cX8_balloon 127 = .ok (.ireturn, 1) := by decide +kernel
theorem dX8_weight_0 : decode cX8_weight 0 = .ok (.aload_n 0, 1) := by decide +kernel
theorem dX8_weight_1 : decode cX8_weight 1 = .ok (.iload_n 1, 1) := by decide +kernel
theorem dX8_weight_2 : decode cX8_weight 2 = .ok (.iconst 5, 1) := by decide +kernel
theorem dX8_weight_3 : decode cX8_weight 3 = .ok (.invokevirtual 219, 3) := by decide +kernel
theorem dX8_weight_6 : decode cX8_weight 6 = .ok (.aload_n 0, 1) := by decide +kernel
theorem dX8_weight_7 : decode cX8_weight 7 = .ok (.iload_n 1, 1) := by decide +kernel
theorem dX8_weight_8 : decode cX8_weight 8 = .ok (.bipush 6, 2) := by decide +kernel
theorem dX8_weight_10 : decode cX8_weight 10 = .ok (.invokevirtual 219, 3) := by decide +kernel
theorem dX8_weight_13 : decode cX8_weight 13 = .ok (.iadd, 1) := by decide +kernel
theorem dX8_weight_14 : decode cX8_weight 14 = .ok (.aload_n 0, 1) := by decide +kernel
theorem dX8_weight_15 : decode cX8_weight 15 = .ok (.iload_n 1, 1) := by decide +kernel
theorem dX8_weight_16 : decode cX8_weight 16 = .ok (.bipush 7, 2) := by decide +kernel
theorem dX8_weight_18 : decode cX8_weight 18 = .ok (.invokevirtual 219, 3) := by decide +kernel
theorem dX8_weight_21 : decode cX8_weight 21 = .ok (.iadd, 1) := by decide +kernel
theorem dX8_weight_22 : decode cX8_weight 22 = .ok (.aload_n 0, 1) := by decide +kernel
theorem dX8_weight_23 : decode cX8_weight 23 = .ok (.getfield 20, 3) := by decide +kernel
theorem dX8_weight_26 : decode cX8_weight 26 = .ok (.iload_n 1, 1) := by decide +kernel
theorem dX8_weight_27 : decode cX8_weight 27 = .ok (.iaload, 1) := by decide +kernel
theorem dX8_weight_28 : decode cX8_weight 28 = .ok (.iadd, 1) := by decide +kernel
theorem dX8_weight_29 : decode cX8_weight 29 = .ok (.ireturn, 1) := by decide +kernel
theorem dX8_hourNow_0 : decode cX8_hourNow 0 = .ok (.aload_n 0, 1) := by decide +kernel
theorem dX8_hourNow_1 : decode cX8_hourNow 1 = .ok (.getfield 23, 3) := by decide +kernel
theorem dX8_hourNow_4 : decode cX8_hourNow 4 = .ok (.aload_n 0, 1) := by decide +kernel
theorem dX8_hourNow_5 : decode cX8_hourNow 5 = .ok (.getfield 85, 3) := by decide +kernel
theorem dX8_hourNow_8 : decode cX8_hourNow 8 = .ok (.iconst 0, 1) := by decide +kernel
theorem dX8_hourNow_9 : decode cX8_hourNow 9 = .ok (.iadd, 1) := by decide +kernel
theorem dX8_hourNow_10 : decode cX8_hourNow 10 = .ok (.iaload, 1) := by decide +kernel
theorem dX8_hourNow_11 : decode cX8_hourNow 11 = .ok (.bipush 24, 2) := by decide +kernel
theorem dX8_hourNow_13 : decode cX8_hourNow 13 = .ok (.irem, 1) := by decide +kernel
theorem dX8_hourNow_14 : decode cX8_hourNow 14 = .ok (.ireturn, 1) := by decide +kernel
theorem dX8_lift_0 : decode cX8_lift 0 = .ok (.aload_n 0, 1) := by decide +kernel
theorem dX8_lift_1 : decode cX8_lift 1 = .ok (.getfield 7, 3) := by decide +kernel
theorem dX8_lift_4 : decode cX8_lift 4 = .ok (.aload_n 0, 1) := by decide +kernel
theorem dX8_lift_5 : decode cX8_lift 5 = .ok (.invokevirtual 222, 3) := by decide +kernel
theorem dX8_lift_8 : decode cX8_lift 8 = .ok (.iaload, 1) := by decide +kernel
theorem dX8_lift_9 : decode cX8_lift 9 = .ok (.aload_n 0, 1) := by decide +kernel
theorem dX8_lift_10 : decode cX8_lift 10 = .ok (.getfield 225, 3) := by decide +kernel
theorem dX8_lift_13 : decode cX8_lift 13 = .ok (.isub, 1) := by decide +kernel
theorem dX8_lift_14 : decode cX8_lift 14 = .ok (.istore_n 2, 1) := by decide +kernel
theorem dX8_lift_15 : decode cX8_lift 15 = .ok (.aload_n 0, 1) := by decide +kernel
theorem dX8_lift_16 : decode cX8_lift 16 = .ok (.getfield 17, 3) := by decide +kernel
theorem dX8_lift_19 : decode cX8_lift 19 = .ok (.iload_n 1, 1) := by decide +kernel
theorem dX8_lift_20 : decode cX8_lift 20 = .ok (.iaload, 1) := by decide +kernel
theorem dX8_lift_21 : decode cX8_lift 21 = .ok (.iconst 1, 1) := by decide +kernel
theorem dX8_lift_22 : decode cX8_lift 22 = .ok (.if_icmp .eq 13, 3) := by decide +kernel
theorem dX8_lift_25 : decode cX8_lift 25 = .ok (.aload_n 0, 1) := by decide +kernel
theorem dX8_lift_26 : decode cX8_lift 26 = .ok (.getfield 17, 3) := by decide +kernel
theorem dX8_lift_29 : decode cX8_lift 29 = .ok (.iload_n 1, 1) := by decide +kernel
theorem dX8_lift_30 : decode cX8_lift 30 = .ok (.iaload, 1) := by decide +kernel
theorem dX8_lift_31 : decode cX8_lift 31 = .ok (.iconst 4, 1) := by decide +kernel
theorem dX8_lift_32 : decode cX8_lift 32 = .ok (.if_icmp .ne 7, 3) := by decide +kernel
theorem dX8_lift_35 : decode cX8_lift 35 = .ok (.iconst 1, 1) := by decide +kernel
theorem dX8_lift_36 : decode cX8_lift 36 = .ok (.goto 4, 3) := by decide +kernel
theorem dX8_lift_39 : decode cX8_lift 39 = .ok (.iconst 0, 1) := by decide +kernel
theorem dX8_lift_40 : decode cX8_lift 40 = .ok (.istore_n 3, 1) := by decide +kernel
theorem dX8_lift_41 : decode cX8_lift 41 = .ok (.aload_n 0, 1) := by decide +kernel
theorem dX8_lift_42 : decode cX8_lift 42 = .ok (.iload_n 1, 1) := by decide +kernel
theorem dX8_lift_43 : decode cX8_lift 43 = .ok (.iconst 4, 1) := by decide +kernel
theorem dX8_lift_44 : decode cX8_lift 44 = .ok (.invokevirtual 219, 3) := by decide +kernel
theorem dX8_lift_47 : decode cX8_lift 47 = .ok (.istore 4, 2) := by decide +kernel
theorem dX8_lift_49 : decode cX8_lift 49 = .ok (.iload 4, 2) := by decide +kernel
theorem dX8_lift_51 : decode cX8_lift 51 = .ok (.iload 4, 2) := by decide +kernel
theorem dX8_lift_53 : decode cX8_lift 53 = .ok (.iload_n 3, 1) := by decide +kernel
theorem dX8_lift_54 : decode cX8_lift 54 = .ok (.ifCond .eq 9, 3) := by decide +kernel
theorem dX8_lift_57 : decode cX8_lift 57 = .ok (.iconst 2, 1) := by decide +kernel
theorem dX8_lift_58 : decode cX8_lift 58 = .ok (.iload_n 2, 1) := by decide +kernel
theorem dX8_lift_59 : decode cX8_lift 59 = .ok (.imul, 1) := by decide +kernel
theorem dX8_lift_60 : decode cX8_lift 60 = .ok (.goto 4, 3) := by decide +kernel
theorem dX8_lift_63 : decode cX8_lift 63 = .ok (.iload_n 2, 1) := by decide +kernel
theorem dX8_lift_64 : decode cX8_lift 64 = .ok (.imul, 1) := by decide +kernel
theorem dX8_lift_65 : decode cX8_lift 65 = .ok (.bipush 100, 2) := by decide +kernel
theorem dX8_lift_67 : decode cX8_lift 67 = .ok (.idiv, 1) := by decide +kernel
theorem dX8_lift_68 : decode cX8_lift 68 = .ok (.iadd, 1) := by decide +kernel
theorem dX8_lift_69 : decode cX8_lift 69 = .ok (.aload_n 0, 1) := by decide +kernel
theorem dX8_lift_70 : decode cX8_lift 70 = .ok (.getfield 17, 3) := by decide +kernel
theorem dX8_lift_73 : decode cX8_lift 73 = .ok (.iload_n 1, 1) := by decide +kernel
theorem dX8_lift_74 : decode cX8_lift 74 = .ok (.iaload, 1) := by decide +kernel
theorem dX8_lift_75 : decode cX8_lift 75 = .ok (.iconst 4, 1) := by decide +kernel
theorem dX8_lift_76 : decode cX8_lift 76 = .ok (.if_icmp .ne 7, 3) := by decide +kernel
theorem dX8_lift_79 : decode cX8_lift 79 = .ok (.iconst 5, 1) := by decide +kernel
theorem dX8_lift_80 : decode cX8_lift 80 = .ok (.goto 4, 3) := by decide +kernel
theorem dX8_lift_83 : decode cX8_lift 83 = .ok (.iconst 0, 1) := by decide +kernel
theorem dX8_lift_84 : decode cX8_lift 84 = .ok (.iadd, 1) := by decide +kernel
theorem dX8_lift_85 : decode cX8_lift 85 = .ok (.ireturn, 1) := by decide +kernel
theorem dX8_target_0 : decode cX8_target 0 = .ok (.aload_n 0, 1) := by decide +kernel
theorem dX8_target_1 : decode cX8_target 1 = .ok (.iload_n 1, 1) := by decide +kernel
theorem dX8_target_2 : decode cX8_target 2 = .ok (.invokevirtual 228, 3) := by decide +kernel
theorem dX8_target_5 : decode cX8_target 5 = .ok (.aload_n 0, 1) := by decide +kernel
theorem dX8_target_6 : decode cX8_target 6 = .ok (.iload_n 1, 1) := by decide +kernel
theorem dX8_target_7 : decode cX8_target 7 = .ok (.invokevirtual 231, 3) := by decide +kernel
theorem dX8_target_10 : decode cX8_target 10 = .ok (.isub, 1) := by decide +kernel
theorem dX8_target_11 : decode cX8_target 11 = .ok (.istore_n 2, 1) := by decide +kernel
theorem dX8_target_12 : decode cX8_target 12 = .ok (.aload_n 0, 1) := by decide +kernel
theorem dX8_target_13 : decode cX8_target 13 = .ok (.getfield 17, 3) := by decide +kernel
theorem dX8_target_16 : decode cX8_target 16 = .ok (.iload_n 1, 1) := by decide +kernel
theorem dX8_target_17 : decode cX8_target 17 = .ok (.iaload, 1) := by decide +kernel
theorem dX8_target_18 : decode cX8_target 18 = .ok (.iconst 5, 1) := by decide +kernel
theorem dX8_target_19 : decode cX8_target 19 = .ok (.if_icmp .ne 9, 3) := by decide +kernel
theorem dX8_target_22 : decode cX8_target 22 = .ok (.iload_n 2, 1) := by decide +kernel
theorem dX8_target_23 : decode cX8_target 23 = .ok (.iconst 2, 1) := by decide +kernel
theorem dX8_target_24 : decode cX8_target 24 = .ok (.idiv, 1) := by decide +kernel
theorem dX8_target_25 : decode cX8_target 25 = .ok (.goto 4, 3) := by decide +kernel
theorem dX8_target_28 : decode cX8_target 28 = .ok (.iload_n 2, 1) := by decide +kernel
theorem dX8_target_29 : decode cX8_target 29 = .ok (.istore_n 2, 1) := by decide +kernel
theorem dX8_target_30 : decode cX8_target 30 = .ok (.iload_n 2, 1) := by decide +kernel
theorem dX8_target_31 : decode cX8_target 31 = .ok (.ifCond .ge 7, 3) := by decide +kernel
theorem dX8_target_34 : decode cX8_target 34 = .ok (.iconst 0, 1) := by decide +kernel
theorem dX8_target_35 : decode cX8_target 35 = .ok (.goto 23, 3) := by decide +kernel
theorem dX8_target_38 : decode cX8_target 38 = .ok (.iload_n 2, 1) := by decide +kernel
theorem dX8_target_39 : decode cX8_target 39 = .ok (.aload_n 0, 1) := by decide +kernel
theorem dX8_target_40 : decode cX8_target 40 = .ok (.iload_n 1, 1) := by decide +kernel
theorem dX8_target_41 : decode cX8_target 41 = .ok (.iconst 3, 1) := by decide +kernel
theorem dX8_target_42 : decode cX8_target 42 = .ok (.invokevirtual 219, 3) := by decide +kernel
theorem dX8_target_45 : decode cX8_target 45 = .ok (.if_icmp .le 12, 3) := by decide +kernel
theorem dX8_target_48 : decode cX8_target 48 = .ok (.aload_n 0, 1) := by decide +kernel
theorem dX8_target_49 : decode cX8_target 49 = .ok (.iload_n 1, 1) := by decide +kernel
theorem dX8_target_50 : decode cX8_target 50 = .ok (.iconst 3, 1) := by decide +kernel
theorem dX8_target_51 : decode cX8_target 51 = .ok (.invokevirtual 219, 3) := by decide +kernel
theorem dX8_target_54 : decode cX8_target 54 = .ok (.goto 4, 3) := by decide +kernel
theorem dX8_target_57 : decode cX8_target 57 = .ok (.iload_n 2, 1) := by decide +kernel
theorem dX8_target_58 : decode cX8_target 58 = .ok (.ireturn, 1) := by decide +kernel
theorem dX8_leaks_0 : decode cX8_leaks 0 = .ok (.aload_n 0, 1) := by decide +kernel
theorem dX8_leaks_1 : decode cX8_leaks 1 = .ok (.getfield 17, 3) := by decide +kernel
theorem dX8_leaks_4 : decode cX8_leaks 4 = .ok (.iload_n 1, 1) := by decide +kernel
theorem dX8_leaks_5 : decode cX8_leaks 5 = .ok (.iaload, 1) := by decide +kernel
theorem dX8_leaks_6 : decode cX8_leaks 6 = .ok (.iconst 2, 1) := by decide +kernel
theorem dX8_leaks_7 : decode cX8_leaks 7 = .ok (.if_icmp .ne 7, 3) := by decide +kernel
theorem dX8_leaks_10 : decode cX8_leaks 10 = .ok (.iconst 2, 1) := by decide +kernel
theorem dX8_leaks_11 : decode cX8_leaks 11 = .ok (.goto 27, 3) := by decide +kernel
theorem dX8_leaks_14 : decode cX8_leaks 14 = .ok (.aload_n 0, 1) := by decide +kernel
theorem dX8_leaks_15 : decode cX8_leaks 15 = .ok (.getfield 17, 3) := by decide +kernel
theorem dX8_leaks_18 : decode cX8_leaks 18 = .ok (.iload_n 1, 1) := by decide +kernel
theorem dX8_leaks_19 : decode cX8_leaks 19 = .ok (.iaload, 1) := by decide +kernel
theorem dX8_leaks_20 : decode cX8_leaks 20 = .ok (.iconst 3, 1) := by decide +kernel
theorem dX8_leaks_21 : decode cX8_leaks 21 = .ok (.if_icmp .ne 16, 3) := by decide +kernel
theorem dX8_leaks_24 : decode cX8_leaks 24 = .ok (.aload_n 0, 1) := by decide +kernel
theorem dX8_leaks_25 : decode cX8_leaks 25 = .ok (.invokevirtual 222, 3) := by decide +kernel
theorem dX8_leaks_28 : decode cX8_leaks 28 = .ok (.iconst 2, 1) := by decide +kernel
theorem dX8_leaks_29 : decode cX8_leaks 29 = .ok (.irem, 1) := by decide +kernel
theorem dX8_leaks_30 : decode cX8_leaks 30 = .ok (.ifCond .ne 7, 3) := by decide +kernel
theorem dX8_leaks_33 : decode cX8_leaks 33 = .ok (.iconst 1, 1) := by decide +kernel
theorem dX8_leaks_34 : decode cX8_leaks 34 = .ok (.goto 4, 3) := by decide +kernel
theorem dX8_leaks_37 : decode cX8_leaks 37 = .ok (.iconst 0, 1) := by decide +kernel
theorem dX8_leaks_38 : decode cX8_leaks 38 = .ok (.ireturn, 1) := by decide +kernel
theorem dX8_balloonOf_0 : decode cX8_balloonOf 0 = .ok (.aload_n 0, 1) := by decide +kernel
theorem dX8_balloonOf_1 : decode cX8_balloonOf 1 = .ok (.iload_n 1, 1) := by decide +kernel
theorem dX8_balloonOf_2 : decode cX8_balloonOf 2 = .ok (.invokevirtual 234, 3) := by decide +kernel
theorem dX8_balloonOf_5 : decode cX8_balloonOf 5 = .ok (.ifCond .eq 13, 3) := by decide +kernel
theorem dX8_balloonOf_8 : decode cX8_balloonOf 8 = .ok (.iload_n 2, 1) := by decide +kernel
theorem dX8_balloonOf_9 : decode cX8_balloonOf 9 = .ok (.iconst 0, 1) := by decide +kernel
theorem dX8_balloonOf_10 : decode cX8_balloonOf 10 = .ok (.bipush 11, 2) := by decide +kernel
theorem dX8_balloonOf_12 : decode cX8_balloonOf 12 = .ok (.invokestatic 78, 3) := by decide +kernel
theorem dX8_balloonOf_15 : decode cX8_balloonOf 15 = .ok (.ifCond .ne 5, 3) := by decide +kernel
theorem dX8_balloonOf_18 : decode cX8_balloonOf 18 = .ok (.iconst (-1), 1) := by decide +kernel
theorem dX8_balloonOf_19 : decode cX8_balloonOf 19 = .ok (.ireturn, 1) := by decide +kernel
theorem dX8_balloonOf_20 : decode cX8_balloonOf 20 = .ok (.iload_n 2, 1) := by decide +kernel
theorem dX8_balloonOf_21 : decode cX8_balloonOf 21 = .ok (.tableswitch 95 0 11 #[63, 70, 95, 95, 95, 95, 95, 95, 95, 77, 83, 89], 63) := by decide +kernel
theorem dX8_balloonOf_84 : decode cX8_balloonOf 84 = .ok (.aload_n 0, 1) := by decide +kernel
theorem dX8_balloonOf_85 : decode cX8_balloonOf 85 = .ok (.getfield 17, 3) := by decide +kernel
theorem dX8_balloonOf_88 : decode cX8_balloonOf 88 = .ok (.iload_n 1, 1) := by decide +kernel
theorem dX8_balloonOf_89 : decode cX8_balloonOf 89 = .ok (.iaload, 1) := by decide +kernel
theorem dX8_balloonOf_90 : decode cX8_balloonOf 90 = .ok (.ireturn, 1) := by decide +kernel
theorem dX8_balloonOf_91 : decode cX8_balloonOf 91 = .ok (.aload_n 0, 1) := by decide +kernel
theorem dX8_balloonOf_92 : decode cX8_balloonOf 92 = .ok (.getfield 20, 3) := by decide +kernel
theorem dX8_balloonOf_95 : decode cX8_balloonOf 95 = .ok (.iload_n 1, 1) := by decide +kernel
theorem dX8_balloonOf_96 : decode cX8_balloonOf 96 = .ok (.iaload, 1) := by decide +kernel
theorem dX8_balloonOf_97 : decode cX8_balloonOf 97 = .ok (.ireturn, 1) := by decide +kernel
theorem dX8_balloonOf_98 : decode cX8_balloonOf 98 = .ok (.aload_n 0, 1) := by decide +kernel
theorem dX8_balloonOf_99 : decode cX8_balloonOf 99 = .ok (.iload_n 1, 1) := by decide +kernel
theorem dX8_balloonOf_100 : decode cX8_balloonOf 100 = .ok (.invokevirtual 231, 3) := by decide +kernel
theorem dX8_balloonOf_103 : decode cX8_balloonOf 103 = .ok (.ireturn, 1) := by decide +kernel
theorem dX8_balloonOf_104 : decode cX8_balloonOf 104 = .ok (.aload_n 0, 1) := by decide +kernel
theorem dX8_balloonOf_105 : decode cX8_balloonOf 105 = .ok (.iload_n 1, 1) := by decide +kernel
theorem dX8_balloonOf_106 : decode cX8_balloonOf 106 = .ok (.invokevirtual 237, 3) := by decide +kernel
theorem dX8_balloonOf_109 : decode cX8_balloonOf 109 = .ok (.ireturn, 1) := by decide +kernel
theorem dX8_balloonOf_110 : decode cX8_balloonOf 110 = .ok (.aload_n 0, 1) := by decide +kernel
theorem dX8_balloonOf_111 : decode cX8_balloonOf 111 = .ok (.iload_n 1, 1) := by decide +kernel
theorem dX8_balloonOf_112 : decode cX8_balloonOf 112 = .ok (.invokevirtual 240, 3) := by decide +kernel
theorem dX8_balloonOf_115 : decode cX8_balloonOf 115 = .ok (.ireturn, 1) := by decide +kernel
theorem dX8_balloonOf_116 : decode cX8_balloonOf 116 = .ok (.aload_n 0, 1) := by decide +kernel
theorem dX8_balloonOf_117 : decode cX8_balloonOf 117 = .ok (.iload_n 1, 1) := by decide +kernel
theorem dX8_balloonOf_118 : decode cX8_balloonOf 118 = .ok (.iload_n 2, 1) := by decide +kernel
theorem dX8_balloonOf_119 : decode cX8_balloonOf 119 = .ok (.iconst 1, 1) := by decide +kernel
theorem dX8_balloonOf_120 : decode cX8_balloonOf 120 = .ok (.isub, 1) := by decide +kernel
theorem dX8_balloonOf_121 : decode cX8_balloonOf 121 = .ok (.invokevirtual 219, 3) := by decide +kernel
theorem dX8_balloonOf_124 : decode cX8_balloonOf 124 = .ok (.ireturn, 1) := by decide +kernel
theorem dX8_becomes_0 : decode cX8_becomes 0 = .ok (.aload_n 0, 1) := by decide +kernel
theorem dX8_becomes_1 : decode cX8_becomes 1 = .ok (.iload_n 1, 1) := by decide +kernel
theorem dX8_becomes_2 : decode cX8_becomes 2 = .ok (.invokevirtual 234, 3) := by decide +kernel
theorem dX8_becomes_5 : decode cX8_becomes 5 = .ok (.ifCond .eq 11, 3) := by decide +kernel
theorem dX8_becomes_8 : decode cX8_becomes 8 = .ok (.iload_n 2, 1) := by decide +kernel
theorem dX8_becomes_9 : decode cX8_becomes 9 = .ok (.iload_n 3, 1) := by decide +kernel
theorem dX8_becomes_10 : decode cX8_becomes 10 = .ok (.invokestatic 243, 3) := by decide +kernel
theorem dX8_becomes_13 : decode cX8_becomes 13 = .ok (.ifCond .ne 5, 3) := by decide +kernel
theorem dX8_becomes_16 : decode cX8_becomes 16 = .ok (.iconst (-1), 1) := by decide +kernel
theorem dX8_becomes_17 : decode cX8_becomes 17 = .ok (.ireturn, 1) := by decide +kernel
theorem dX8_becomes_18 : decode cX8_becomes 18 = .ok (.aload_n 0, 1) := by decide +kernel
theorem dX8_becomes_19 : decode cX8_becomes 19 = .ok (.iload_n 1, 1) := by decide +kernel
theorem dX8_becomes_20 : decode cX8_becomes 20 = .ok (.iload_n 2, 1) := by decide +kernel
theorem dX8_becomes_21 : decode cX8_becomes 21 = .ok (.iconst 1, 1) := by decide +kernel
theorem dX8_becomes_22 : decode cX8_becomes 22 = .ok (.isub, 1) := by decide +kernel
theorem dX8_becomes_23 : decode cX8_becomes 23 = .ok (.invokevirtual 219, 3) := by decide +kernel
theorem dX8_becomes_26 : decode cX8_becomes 26 = .ok (.istore 4, 2) := by decide +kernel
theorem dX8_becomes_28 : decode cX8_becomes 28 = .ok (.aload_n 0, 1) := by decide +kernel
theorem dX8_becomes_29 : decode cX8_becomes 29 = .ok (.iload_n 1, 1) := by decide +kernel
theorem dX8_becomes_30 : decode cX8_becomes 30 = .ok (.iload_n 2, 1) := by decide +kernel
theorem dX8_becomes_31 : decode cX8_becomes 31 = .ok (.iconst 1, 1) := by decide +kernel
theorem dX8_becomes_32 : decode cX8_becomes 32 = .ok (.isub, 1) := by decide +kernel
theorem dX8_becomes_33 : decode cX8_becomes 33 = .ok (.iload_n 3, 1) := by decide +kernel
theorem dX8_becomes_34 : decode cX8_becomes 34 = .ok (.invokevirtual 215, 3) := by decide +kernel
theorem dX8_becomes_37 : decode cX8_becomes 37 = .ok (.iload 4, 2) := by decide +kernel
theorem dX8_becomes_39 : decode cX8_becomes 39 = .ok (.ireturn, 1) := by decide +kernel
theorem dX8_mind_0 : decode cX8_mind 0 = .ok (.aload_n 0, 1) := by decide +kernel
theorem dX8_mind_1 : decode cX8_mind 1 = .ok (.iload_n 1, 1) := by decide +kernel
theorem dX8_mind_2 : decode cX8_mind 2 = .ok (.invokevirtual 234, 3) := by decide +kernel
theorem dX8_mind_5 : decode cX8_mind 5 = .ok (.ifCond .eq 11, 3) := by decide +kernel
theorem dX8_mind_8 : decode cX8_mind 8 = .ok (.iload_n 2, 1) := by decide +kernel
theorem dX8_mind_9 : decode cX8_mind 9 = .ok (.iload_n 3, 1) := by decide +kernel
theorem dX8_mind_10 : decode cX8_mind 10 = .ok (.invokestatic 211, 3) := by decide +kernel
theorem dX8_mind_13 : decode cX8_mind 13 = .ok (.ifCond .ne 5, 3) := by decide +kernel
theorem dX8_mind_16 : decode cX8_mind 16 = .ok (.iconst (-1), 1) := by decide +kernel
theorem dX8_mind_17 : decode cX8_mind 17 = .ok (.ireturn, 1) := by decide +kernel
theorem dX8_mind_18 : decode cX8_mind 18 = .ok (.aload_n 0, 1) := by decide +kernel
theorem dX8_mind_19 : decode cX8_mind 19 = .ok (.getfield 17, 3) := by decide +kernel
theorem dX8_mind_22 : decode cX8_mind 22 = .ok (.iload_n 1, 1) := by decide +kernel
theorem dX8_mind_23 : decode cX8_mind 23 = .ok (.iaload, 1) := by decide +kernel
theorem dX8_mind_24 : decode cX8_mind 24 = .ok (.istore 4, 2) := by decide +kernel
theorem dX8_mind_26 : decode cX8_mind 26 = .ok (.aload_n 0, 1) := by decide +kernel
theorem dX8_mind_27 : decode cX8_mind 27 = .ok (.getfield 17, 3) := by decide +kernel
theorem dX8_mind_30 : decode cX8_mind 30 = .ok (.iload_n 1, 1) := by decide +kernel
theorem dX8_mind_31 : decode cX8_mind 31 = .ok (.iload_n 2, 1) := by decide +kernel
theorem dX8_mind_32 : decode cX8_mind 32 = .ok (.iastore, 1) := by decide +kernel
theorem dX8_mind_33 : decode cX8_mind 33 = .ok (.aload_n 0, 1) := by decide +kernel
theorem dX8_mind_34 : decode cX8_mind 34 = .ok (.getfield 20, 3) := by decide +kernel
theorem dX8_mind_37 : decode cX8_mind 37 = .ok (.iload_n 1, 1) := by decide +kernel
theorem dX8_mind_38 : decode cX8_mind 38 = .ok (.iload_n 3, 1) := by decide +kernel
theorem dX8_mind_39 : decode cX8_mind 39 = .ok (.iastore, 1) := by decide +kernel
theorem dX8_mind_40 : decode cX8_mind 40 = .ok (.iload 4, 2) := by decide +kernel
theorem dX8_mind_42 : decode cX8_mind 42 = .ok (.ireturn, 1) := by decide +kernel
theorem dX8_pour_0 : decode cX8_pour 0 = .ok (.aload_n 0, 1) := by decide +kernel
theorem dX8_pour_1 : decode cX8_pour 1 = .ok (.iload_n 1, 1) := by decide +kernel
theorem dX8_pour_2 : decode cX8_pour 2 = .ok (.invokevirtual 234, 3) := by decide +kernel
theorem dX8_pour_5 : decode cX8_pour 5 = .ok (.ifCond .eq 14, 3) := by decide +kernel
theorem dX8_pour_8 : decode cX8_pour 8 = .ok (.iload_n 2, 1) := by decide +kernel
theorem dX8_pour_9 : decode cX8_pour 9 = .ok (.iconst 1, 1) := by decide +kernel
theorem dX8_pour_10 : decode cX8_pour 10 = .ok (.sipush 999, 3) := by decide +kernel
theorem dX8_pour_13 : decode cX8_pour 13 = .ok (.invokestatic 78, 3) := by decide +kernel
theorem dX8_pour_16 : decode cX8_pour 16 = .ok (.ifCond .ne 5, 3) := by decide +kernel
theorem dX8_pour_19 : decode cX8_pour 19 = .ok (.iconst (-1), 1) := by decide +kernel
theorem dX8_pour_20 : decode cX8_pour 20 = .ok (.ireturn, 1) := by decide +kernel
theorem dX8_pour_21 : decode cX8_pour 21 = .ok (.aload_n 0, 1) := by decide +kernel
theorem dX8_pour_22 : decode cX8_pour 22 = .ok (.iload_n 1, 1) := by decide +kernel
theorem dX8_pour_23 : decode cX8_pour 23 = .ok (.iconst 5, 1) := by decide +kernel
theorem dX8_pour_24 : decode cX8_pour 24 = .ok (.invokevirtual 219, 3) := by decide +kernel
theorem dX8_pour_27 : decode cX8_pour 27 = .ok (.iload_n 2, 1) := by decide +kernel
theorem dX8_pour_28 : decode cX8_pour 28 = .ok (.if_icmp .ge 6, 3) := by decide +kernel
theorem dX8_pour_31 : decode cX8_pour 31 = .ok (.bipush (-4), 2) := by decide +kernel
theorem dX8_pour_33 : decode cX8_pour 33 = .ok (.ireturn, 1) := by decide +kernel
theorem dX8_pour_34 : decode cX8_pour 34 = .ok (.aload_n 0, 1) := by decide +kernel
theorem dX8_pour_35 : decode cX8_pour 35 = .ok (.iload_n 1, 1) := by decide +kernel
theorem dX8_pour_36 : decode cX8_pour 36 = .ok (.iconst 5, 1) := by decide +kernel
theorem dX8_pour_37 : decode cX8_pour 37 = .ok (.aload_n 0, 1) := by decide +kernel
theorem dX8_pour_38 : decode cX8_pour 38 = .ok (.iload_n 1, 1) := by decide +kernel
theorem dX8_pour_39 : decode cX8_pour 39 = .ok (.iconst 5, 1) := by decide +kernel
theorem dX8_pour_40 : decode cX8_pour 40 = .ok (.invokevirtual 219, 3) := by decide +kernel
theorem dX8_pour_43 : decode cX8_pour 43 = .ok (.iload_n 2, 1) := by decide +kernel
theorem dX8_pour_44 : decode cX8_pour 44 = .ok (.isub, 1) := by decide +kernel
theorem dX8_pour_45 : decode cX8_pour 45 = .ok (.invokevirtual 215, 3) := by decide +kernel
theorem dX8_pour_48 : decode cX8_pour 48 = .ok (.aload_n 0, 1) := by decide +kernel
theorem dX8_pour_49 : decode cX8_pour 49 = .ok (.iload_n 1, 1) := by decide +kernel
theorem dX8_pour_50 : decode cX8_pour 50 = .ok (.iconst 5, 1) := by decide +kernel
theorem dX8_pour_51 : decode cX8_pour 51 = .ok (.invokevirtual 219, 3) := by decide +kernel
theorem dX8_pour_54 : decode cX8_pour 54 = .ok (.ireturn, 1) := by decide +kernel
theorem dX8_isOver_0 : decode cX8_isOver 0 = .ok (.aload_n 0, 1) := by decide +kernel
theorem dX8_isOver_1 : decode cX8_isOver 1 = .ok (.iload_n 1, 1) := by decide +kernel
theorem dX8_isOver_2 : decode cX8_isOver 2 = .ok (.iconst 2, 1) := by decide +kernel
theorem dX8_isOver_3 : decode cX8_isOver 3 = .ok (.invokevirtual 219, 3) := by decide +kernel
theorem dX8_isOver_6 : decode cX8_isOver 6 = .ok (.istore_n 3, 1) := by decide +kernel
theorem dX8_isOver_7 : decode cX8_isOver 7 = .ok (.aload_n 0, 1) := by decide +kernel
theorem dX8_isOver_8 : decode cX8_isOver 8 = .ok (.iload_n 2, 1) := by decide +kernel
theorem dX8_isOver_9 : decode cX8_isOver 9 = .ok (.iconst 2, 1) := by decide +kernel
theorem dX8_isOver_10 : decode cX8_isOver 10 = .ok (.invokevirtual 219, 3) := by decide +kernel
theorem dX8_isOver_13 : decode cX8_isOver 13 = .ok (.istore 4, 2) := by decide +kernel
theorem dX8_isOver_15 : decode cX8_isOver 15 = .ok (.iload_n 3, 1) := by decide +kernel
theorem dX8_isOver_16 : decode cX8_isOver 16 = .ok (.iload 4, 2) := by decide +kernel
theorem dX8_isOver_18 : decode cX8_isOver 18 = .ok (.if_icmp .gt 14, 3) := by decide +kernel
theorem dX8_isOver_21 : decode cX8_isOver 21 = .ok (.iload_n 3, 1) := by decide +kernel
theorem dX8_isOver_22 : decode cX8_isOver 22 = .ok (.iload 4, 2) := by decide +kernel
theorem dX8_isOver_24 : decode cX8_isOver 24 = .ok (.if_icmp .ne 12, 3) := by decide +kernel
theorem dX8_isOver_27 : decode cX8_isOver 27 = .ok (.iload_n 1, 1) := by decide +kernel
theorem dX8_isOver_28 : decode cX8_isOver 28 = .ok (.iload_n 2, 1) := by decide +kernel
theorem dX8_isOver_29 : decode cX8_isOver 29 = .ok (.if_icmp .le 7, 3) := by decide +kernel
theorem dX8_isOver_32 : decode cX8_isOver 32 = .ok (.iconst 1, 1) := by decide +kernel
theorem dX8_isOver_33 : decode cX8_isOver 33 = .ok (.goto 4, 3) := by decide +kernel
theorem dX8_isOver_36 : decode cX8_isOver 36 = .ok (.iconst 0, 1) := by decide +kernel
theorem dX8_isOver_37 : decode cX8_isOver 37 = .ok (.ireturn, 1) := by decide +kernel
theorem dX8_nextTo_0 : decode cX8_nextTo 0 = .ok (.bipush (-3), 2) := by decide +kernel
theorem dX8_nextTo_2 : decode cX8_nextTo 2 = .ok (.istore_n 3, 1) := by decide +kernel
theorem dX8_nextTo_3 : decode cX8_nextTo 3 = .ok (.iconst 0, 1) := by decide +kernel
theorem dX8_nextTo_4 : decode cX8_nextTo 4 = .ok (.istore 4, 2) := by decide +kernel
theorem dX8_nextTo_6 : decode cX8_nextTo 6 = .ok (.iload 4, 2) := by decide +kernel
theorem dX8_nextTo_8 : decode cX8_nextTo 8 = .ok (.aload_n 0, 1) := by decide +kernel
theorem dX8_nextTo_9 : decode cX8_nextTo 9 = .ok (.getfield 82, 3) := by decide +kernel
theorem dX8_nextTo_12 : decode cX8_nextTo 12 = .ok (.if_icmp .ge 76, 3) := by decide +kernel
theorem dX8_nextTo_15 : decode cX8_nextTo 15 = .ok (.iload 4, 2) := by decide +kernel
theorem dX8_nextTo_17 : decode cX8_nextTo 17 = .ok (.iload_n 1, 1) := by decide +kernel
theorem dX8_nextTo_18 : decode cX8_nextTo 18 = .ok (.if_icmp .eq 34, 3) := by decide +kernel
theorem dX8_nextTo_21 : decode cX8_nextTo 21 = .ok (.aload_n 0, 1) := by decide +kernel
theorem dX8_nextTo_22 : decode cX8_nextTo 22 = .ok (.iload 4, 2) := by decide +kernel
theorem dX8_nextTo_24 : decode cX8_nextTo 24 = .ok (.iconst 1, 1) := by decide +kernel
theorem dX8_nextTo_25 : decode cX8_nextTo 25 = .ok (.invokevirtual 219, 3) := by decide +kernel
theorem dX8_nextTo_28 : decode cX8_nextTo 28 = .ok (.aload_n 0, 1) := by decide +kernel
theorem dX8_nextTo_29 : decode cX8_nextTo 29 = .ok (.iload_n 1, 1) := by decide +kernel
theorem dX8_nextTo_30 : decode cX8_nextTo 30 = .ok (.iconst 1, 1) := by decide +kernel
theorem dX8_nextTo_31 : decode cX8_nextTo 31 = .ok (.invokevirtual 219, 3) := by decide +kernel
theorem dX8_nextTo_34 : decode cX8_nextTo 34 = .ok (.if_icmp .ne 18, 3) := by decide +kernel
theorem dX8_nextTo_37 : decode cX8_nextTo 37 = .ok (.aload_n 0, 1) := by decide +kernel
theorem dX8_nextTo_38 : decode cX8_nextTo 38 = .ok (.iload 4, 2) := by decide +kernel
theorem dX8_nextTo_40 : decode cX8_nextTo 40 = .ok (.iload_n 1, 1) := by decide +kernel
theorem dX8_nextTo_41 : decode cX8_nextTo 41 = .ok (.invokevirtual 246, 3) := by decide +kernel
theorem dX8_nextTo_44 : decode cX8_nextTo 44 = .ok (.iload_n 2, 1) := by decide +kernel
theorem dX8_nextTo_45 : decode cX8_nextTo 45 = .ok (.if_icmp .ne 7, 3) := by decide +kernel
theorem dX8_nextTo_48 : decode cX8_nextTo 48 = .ok (.iconst 1, 1) := by decide +kernel
theorem dX8_nextTo_49 : decode cX8_nextTo 49 = .ok (.goto 4, 3) := by decide +kernel
theorem dX8_nextTo_52 : decode cX8_nextTo 52 = .ok (.iconst 0, 1) := by decide +kernel
theorem dX8_nextTo_53 : decode cX8_nextTo 53 = .ok (.istore 5, 2) := by decide +kernel
theorem dX8_nextTo_55 : decode cX8_nextTo 55 = .ok (.iload 5, 2) := by decide +kernel
theorem dX8_nextTo_57 : decode cX8_nextTo 57 = .ok (.ifCond .eq 23, 3) := by decide +kernel
theorem dX8_nextTo_60 : decode cX8_nextTo 60 = .ok (.iload_n 3, 1) := by decide +kernel
theorem dX8_nextTo_61 : decode cX8_nextTo 61 = .ok (.ifCond .lt 14, 3) := by decide +kernel
theorem dX8_nextTo_64 : decode cX8_nextTo 64 = .ok (.aload_n 0, 1) := by decide +kernel
theorem dX8_nextTo_65 : decode cX8_nextTo 65 = .ok (.iload_n 3, 1) := by decide +kernel
theorem dX8_nextTo_66 : decode cX8_nextTo 66 = .ok (.iload 4, 2) := by decide +kernel
theorem dX8_nextTo_68 : decode cX8_nextTo 68 = .ok (.invokevirtual 246, 3) := by decide +kernel
theorem dX8_nextTo_71 : decode cX8_nextTo 71 = .ok (.iload_n 2, 1) := by decide +kernel
theorem dX8_nextTo_72 : decode cX8_nextTo 72 = .ok (.if_icmp .ne 8, 3) := by decide +kernel
theorem dX8_nextTo_75 : decode cX8_nextTo 75 = .ok (.iload 4, 2) := by decide +kernel
theorem dX8_nextTo_77 : decode cX8_nextTo 77 = .ok (.goto 4, 3) := by decide +kernel
theorem dX8_nextTo_80 : decode cX8_nextTo 80 = .ok (.iload_n 3, 1) := by decide +kernel
theorem dX8_nextTo_81 : decode cX8_nextTo 81 = .ok (.istore_n 3, 1) := by decide +kernel
theorem dX8_nextTo_82 : decode cX8_nextTo 82 = .ok (.iinc 4 1, 3) := by decide +kernel
theorem dX8_nextTo_85 : decode cX8_nextTo 85 = .ok (.goto (-79), 3) := by decide +kernel
theorem dX8_nextTo_88 : decode cX8_nextTo 88 = .ok (.iload_n 3, 1) := by decide +kernel
theorem dX8_nextTo_89 : decode cX8_nextTo 89 = .ok (.ireturn, 1) := by decide +kernel
theorem dX8_above_0 : decode cX8_above 0 = .ok (.aload_n 0, 1) := by decide +kernel
theorem dX8_above_1 : decode cX8_above 1 = .ok (.iload_n 1, 1) := by decide +kernel
theorem dX8_above_2 : decode cX8_above 2 = .ok (.invokevirtual 234, 3) := by decide +kernel
theorem dX8_above_5 : decode cX8_above 5 = .ok (.ifCond .eq 29, 3) := by decide +kernel
theorem dX8_above_8 : decode cX8_above 8 = .ok (.iload_n 2, 1) := by decide +kernel
theorem dX8_above_9 : decode cX8_above 9 = .ok (.iconst 0, 1) := by decide +kernel
theorem dX8_above_10 : decode cX8_above 10 = .ok (.iconst 1, 1) := by decide +kernel
theorem dX8_above_11 : decode cX8_above 11 = .ok (.invokestatic 78, 3) := by decide +kernel
theorem dX8_above_14 : decode cX8_above 14 = .ok (.ifCond .eq 20, 3) := by decide +kernel
theorem dX8_above_17 : decode cX8_above 17 = .ok (.aload_n 0, 1) := by decide +kernel
theorem dX8_above_18 : decode cX8_above 18 = .ok (.iload_n 1, 1) := by decide +kernel
theorem dX8_above_19 : decode cX8_above 19 = .ok (.iload_n 2, 1) := by decide +kernel
theorem dX8_above_20 : decode cX8_above 20 = .ok (.ifCond .ne 7, 3) := by decide +kernel
theorem dX8_above_23 : decode cX8_above 23 = .ok (.iconst 1, 1) := by decide +kernel
theorem dX8_above_24 : decode cX8_above 24 = .ok (.goto 4, 3) := by decide +kernel
theorem dX8_above_27 : decode cX8_above 27 = .ok (.iconst 0, 1) := by decide +kernel
theorem dX8_above_28 : decode cX8_above 28 = .ok (.invokevirtual 249, 3) := by decide +kernel
theorem dX8_above_31 : decode cX8_above 31 = .ok (.goto 4, 3) := by decide +kernel
theorem dX8_above_34 : decode cX8_above 34 = .ok (.iconst (-1), 1) := by decide +kernel
theorem dX8_above_35 : decode cX8_above 35 = .ok (.ireturn, 1) := by decide +kernel
theorem dX8_apart_0 : decode cX8_apart 0 = .ok (.aload_n 0, 1) := by decide +kernel
theorem dX8_apart_1 : decode cX8_apart 1 = .ok (.iload_n 1, 1) := by decide +kernel
theorem dX8_apart_2 : decode cX8_apart 2 = .ok (.iconst 2, 1) := by decide +kernel
theorem dX8_apart_3 : decode cX8_apart 3 = .ok (.invokevirtual 219, 3) := by decide +kernel
theorem dX8_apart_6 : decode cX8_apart 6 = .ok (.aload_n 0, 1) := by decide +kernel
theorem dX8_apart_7 : decode cX8_apart 7 = .ok (.iload_n 2, 1) := by decide +kernel
theorem dX8_apart_8 : decode cX8_apart 8 = .ok (.iconst 2, 1) := by decide +kernel
theorem dX8_apart_9 : decode cX8_apart 9 = .ok (.invokevirtual 219, 3) := by decide +kernel
theorem dX8_apart_12 : decode cX8_apart 12 = .ok (.isub, 1) := by decide +kernel
theorem dX8_apart_13 : decode cX8_apart 13 = .ok (.istore_n 3, 1) := by decide +kernel
theorem dX8_apart_14 : decode cX8_apart 14 = .ok (.iload_n 3, 1) := by decide +kernel
theorem dX8_apart_15 : decode cX8_apart 15 = .ok (.ifCond .ge 9, 3) := by decide +kernel
theorem dX8_apart_18 : decode cX8_apart 18 = .ok (.iconst 0, 1) := by decide +kernel
theorem dX8_apart_19 : decode cX8_apart 19 = .ok (.iload_n 3, 1) := by decide +kernel
theorem dX8_apart_20 : decode cX8_apart 20 = .ok (.isub, 1) := by decide +kernel
theorem dX8_apart_21 : decode cX8_apart 21 = .ok (.goto 4, 3) := by decide +kernel
theorem dX8_apart_24 : decode cX8_apart 24 = .ok (.iload_n 3, 1) := by decide +kernel
theorem dX8_apart_25 : decode cX8_apart 25 = .ok (.ireturn, 1) := by decide +kernel
theorem dX8_reach_0 : decode cX8_reach 0 = .ok (.iconst 0, 1) := by decide +kernel
theorem dX8_reach_1 : decode cX8_reach 1 = .ok (.istore_n 2, 1) := by decide +kernel
theorem dX8_reach_2 : decode cX8_reach 2 = .ok (.aload_n 0, 1) := by decide +kernel
theorem dX8_reach_3 : decode cX8_reach 3 = .ok (.iload_n 1, 1) := by decide +kernel
theorem dX8_reach_4 : decode cX8_reach 4 = .ok (.iconst 1, 1) := by decide +kernel
theorem dX8_reach_5 : decode cX8_reach 5 = .ok (.invokevirtual 249, 3) := by decide +kernel
theorem dX8_reach_8 : decode cX8_reach 8 = .ok (.istore_n 3, 1) := by decide +kernel
theorem dX8_reach_9 : decode cX8_reach 9 = .ok (.aload_n 0, 1) := by decide +kernel
theorem dX8_reach_10 : decode cX8_reach 10 = .ok (.iload_n 1, 1) := by decide +kernel
theorem dX8_reach_11 : decode cX8_reach 11 = .ok (.iconst 0, 1) := by decide +kernel
theorem dX8_reach_12 : decode cX8_reach 12 = .ok (.invokevirtual 249, 3) := by decide +kernel
theorem dX8_reach_15 : decode cX8_reach 15 = .ok (.istore 4, 2) := by decide +kernel
theorem dX8_reach_17 : decode cX8_reach 17 = .ok (.iload_n 2, 1) := by decide +kernel
theorem dX8_reach_18 : decode cX8_reach 18 = .ok (.iload_n 3, 1) := by decide +kernel
theorem dX8_reach_19 : decode cX8_reach 19 = .ok (.ifCond .lt 28, 3) := by decide +kernel
theorem dX8_reach_22 : decode cX8_reach 22 = .ok (.aload_n 0, 1) := by decide +kernel
theorem dX8_reach_23 : decode cX8_reach 23 = .ok (.iload_n 3, 1) := by decide +kernel
theorem dX8_reach_24 : decode cX8_reach 24 = .ok (.ifCond .lt 7, 3) := by decide +kernel
theorem dX8_reach_27 : decode cX8_reach 27 = .ok (.iload_n 3, 1) := by decide +kernel
theorem dX8_reach_28 : decode cX8_reach 28 = .ok (.goto 4, 3) := by decide +kernel
theorem dX8_reach_31 : decode cX8_reach 31 = .ok (.iconst 0, 1) := by decide +kernel
theorem dX8_reach_32 : decode cX8_reach 32 = .ok (.iload_n 1, 1) := by decide +kernel
theorem dX8_reach_33 : decode cX8_reach 33 = .ok (.invokevirtual 253, 3) := by decide +kernel
theorem dX8_reach_36 : decode cX8_reach 36 = .ok (.bipush 20, 2) := by decide +kernel
theorem dX8_reach_38 : decode cX8_reach 38 = .ok (.if_icmp .gt 9, 3) := by decide +kernel
theorem dX8_reach_41 : decode cX8_reach 41 = .ok (.iconst 1, 1) := by decide +kernel
theorem dX8_reach_42 : decode cX8_reach 42 = .ok (.iload_n 3, 1) := by decide +kernel
theorem dX8_reach_43 : decode cX8_reach 43 = .ok (.ishl, 1) := by decide +kernel
theorem dX8_reach_44 : decode cX8_reach 44 = .ok (.goto 4, 3) := by decide +kernel
theorem dX8_reach_47 : decode cX8_reach 47 = .ok (.iconst 0, 1) := by decide +kernel
theorem dX8_reach_48 : decode cX8_reach 48 = .ok (.ior, 1) := by decide +kernel
theorem dX8_reach_49 : decode cX8_reach 49 = .ok (.istore_n 2, 1) := by decide +kernel
theorem dX8_reach_50 : decode cX8_reach 50 = .ok (.iload_n 2, 1) := by decide +kernel
theorem dX8_reach_51 : decode cX8_reach 51 = .ok (.iload 4, 2) := by decide +kernel
theorem dX8_reach_53 : decode cX8_reach 53 = .ok (.ifCond .lt 31, 3) := by decide +kernel
theorem dX8_reach_56 : decode cX8_reach 56 = .ok (.aload_n 0, 1) := by decide +kernel
theorem dX8_reach_57 : decode cX8_reach 57 = .ok (.iload 4, 2) := by decide +kernel
theorem dX8_reach_59 : decode cX8_reach 59 = .ok (.ifCond .lt 8, 3) := by decide +kernel
theorem dX8_reach_62 : decode cX8_reach 62 = .ok (.iload 4, 2) := by decide +kernel
theorem dX8_reach_64 : decode cX8_reach 64 = .ok (.goto 4, 3) := by decide +kernel
theorem dX8_reach_67 : decode cX8_reach 67 = .ok (.iconst 0, 1) := by decide +kernel
theorem dX8_reach_68 : decode cX8_reach 68 = .ok (.iload_n 1, 1) := by decide +kernel
theorem dX8_reach_69 : decode cX8_reach 69 = .ok (.invokevirtual 253, 3) := by decide +kernel
theorem dX8_reach_72 : decode cX8_reach 72 = .ok (.bipush 20, 2) := by decide +kernel
theorem dX8_reach_74 : decode cX8_reach 74 = .ok (.if_icmp .gt 10, 3) := by decide +kernel
theorem dX8_reach_77 : decode cX8_reach 77 = .ok (.iconst 1, 1) := by decide +kernel
theorem dX8_reach_78 : decode cX8_reach 78 = .ok (.iload 4, 2) := by decide +kernel
theorem dX8_reach_80 : decode cX8_reach 80 = .ok (.ishl, 1) := by decide +kernel
theorem dX8_reach_81 : decode cX8_reach 81 = .ok (.goto 4, 3) := by decide +kernel
theorem dX8_reach_84 : decode cX8_reach 84 = .ok (.iconst 0, 1) := by decide +kernel
theorem dX8_reach_85 : decode cX8_reach 85 = .ok (.ior, 1) := by decide +kernel
theorem dX8_reach_86 : decode cX8_reach 86 = .ok (.istore_n 2, 1) := by decide +kernel
theorem dX8_reach_87 : decode cX8_reach 87 = .ok (.iload_n 2, 1) := by decide +kernel
theorem dX8_reach_88 : decode cX8_reach 88 = .ok (.ireturn, 1) := by decide +kernel
theorem dX8_reached_0 : decode cX8_reached 0 = .ok (.aload_n 0, 1) := by decide +kernel
theorem dX8_reached_1 : decode cX8_reached 1 = .ok (.iload_n 1, 1) := by decide +kernel
theorem dX8_reached_2 : decode cX8_reached 2 = .ok (.invokevirtual 234, 3) := by decide +kernel
theorem dX8_reached_5 : decode cX8_reached 5 = .ok (.ifCond .eq 11, 3) := by decide +kernel
theorem dX8_reached_8 : decode cX8_reached 8 = .ok (.aload_n 0, 1) := by decide +kernel
theorem dX8_reached_9 : decode cX8_reached 9 = .ok (.iload_n 1, 1) := by decide +kernel
theorem dX8_reached_10 : decode cX8_reached 10 = .ok (.invokevirtual 256, 3) := by decide +kernel
theorem dX8_reached_13 : decode cX8_reached 13 = .ok (.goto 4, 3) := by decide +kernel
theorem dX8_reached_16 : decode cX8_reached 16 = .ok (.iconst (-1), 1) := by decide +kernel
theorem dX8_reached_17 : decode cX8_reached 17 = .ok (.ireturn, 1) := by decide +kernel
theorem dX8_canGive_0 : decode cX8_canGive 0 = .ok (.aload_n 0, 1) := by decide +kernel
theorem dX8_canGive_1 : decode cX8_canGive 1 = .ok (.iload_n 1, 1) := by decide +kernel
theorem dX8_canGive_2 : decode cX8_canGive 2 = .ok (.invokevirtual 256, 3) := by decide +kernel
theorem dX8_canGive_5 : decode cX8_canGive 5 = .ok (.iload_n 2, 1) := by decide +kernel
theorem dX8_canGive_6 : decode cX8_canGive 6 = .ok (.ishr, 1) := by decide +kernel
theorem dX8_canGive_7 : decode cX8_canGive 7 = .ok (.iconst 1, 1) := by decide +kernel
theorem dX8_canGive_8 : decode cX8_canGive 8 = .ok (.iand, 1) := by decide +kernel
theorem dX8_canGive_9 : decode cX8_canGive 9 = .ok (.iconst 1, 1) := by decide +kernel
theorem dX8_canGive_10 : decode cX8_canGive 10 = .ok (.if_icmp .ne 43, 3) := by decide +kernel
theorem dX8_canGive_13 : decode cX8_canGive 13 = .ok (.aload_n 0, 1) := by decide +kernel
theorem dX8_canGive_14 : decode cX8_canGive 14 = .ok (.iload_n 1, 1) := by decide +kernel
theorem dX8_canGive_15 : decode cX8_canGive 15 = .ok (.iload_n 3, 1) := by decide +kernel
theorem dX8_canGive_16 : decode cX8_canGive 16 = .ok (.invokevirtual 219, 3) := by decide +kernel
theorem dX8_canGive_19 : decode cX8_canGive 19 = .ok (.iload 4, 2) := by decide +kernel
theorem dX8_canGive_21 : decode cX8_canGive 21 = .ok (.if_icmp .lt 32, 3) := by decide +kernel
theorem dX8_canGive_24 : decode cX8_canGive 24 = .ok (.aload_n 0, 1) := by decide +kernel
theorem dX8_canGive_25 : decode cX8_canGive 25 = .ok (.iload_n 2, 1) := by decide +kernel
theorem dX8_canGive_26 : decode cX8_canGive 26 = .ok (.iload_n 3, 1) := by decide +kernel
theorem dX8_canGive_27 : decode cX8_canGive 27 = .ok (.invokevirtual 219, 3) := by decide +kernel
theorem dX8_canGive_30 : decode cX8_canGive 30 = .ok (.iload 4, 2) := by decide +kernel
theorem dX8_canGive_32 : decode cX8_canGive 32 = .ok (.iadd, 1) := by decide +kernel
theorem dX8_canGive_33 : decode cX8_canGive 33 = .ok (.iload_n 3, 1) := by decide +kernel
theorem dX8_canGive_34 : decode cX8_canGive 34 = .ok (.iconst 5, 1) := by decide +kernel
theorem dX8_canGive_35 : decode cX8_canGive 35 = .ok (.if_icmp .ne 9, 3) := by decide +kernel
theorem dX8_canGive_38 : decode cX8_canGive 38 = .ok (.sipush 999, 3) := by decide +kernel
theorem dX8_canGive_41 : decode cX8_canGive 41 = .ok (.goto 5, 3) := by decide +kernel
theorem dX8_canGive_44 : decode cX8_canGive 44 = .ok (.bipush 99, 2) := by decide +kernel
theorem dX8_canGive_46 : decode cX8_canGive 46 = .ok (.if_icmp .gt 7, 3) := by decide +kernel
theorem dX8_canGive_49 : decode cX8_canGive 49 = .ok (.iconst 1, 1) := by decide +kernel
theorem dX8_canGive_50 : decode cX8_canGive 50 = .ok (.goto 4, 3) := by decide +kernel
theorem dX8_canGive_53 : decode cX8_canGive 53 = .ok (.iconst 0, 1) := by decide +kernel
theorem dX8_canGive_54 : decode cX8_canGive 54 = .ok (.ireturn, 1) := by decide +kernel
theorem dX8_gives_0 : decode cX8_gives 0 = .ok (.aload_n 0, 1) := by decide +kernel
theorem dX8_gives_1 : decode cX8_gives 1 = .ok (.iload_n 1, 1) := by decide +kernel
theorem dX8_gives_2 : decode cX8_gives 2 = .ok (.iload_n 3, 1) := by decide +kernel
theorem dX8_gives_3 : decode cX8_gives 3 = .ok (.aload_n 0, 1) := by decide +kernel
theorem dX8_gives_4 : decode cX8_gives 4 = .ok (.iload_n 1, 1) := by decide +kernel
theorem dX8_gives_5 : decode cX8_gives 5 = .ok (.iload_n 3, 1) := by decide +kernel
theorem dX8_gives_6 : decode cX8_gives 6 = .ok (.invokevirtual 219, 3) := by decide +kernel
theorem dX8_gives_9 : decode cX8_gives 9 = .ok (.iload 4, 2) := by decide +kernel
theorem dX8_gives_11 : decode cX8_gives 11 = .ok (.isub, 1) := by decide +kernel
theorem dX8_gives_12 : decode cX8_gives 12 = .ok (.invokevirtual 215, 3) := by decide +kernel
theorem dX8_gives_15 : decode cX8_gives 15 = .ok (.aload_n 0, 1) := by decide +kernel
theorem dX8_gives_16 : decode cX8_gives 16 = .ok (.iload_n 2, 1) := by decide +kernel
theorem dX8_gives_17 : decode cX8_gives 17 = .ok (.iload_n 3, 1) := by decide +kernel
theorem dX8_gives_18 : decode cX8_gives 18 = .ok (.aload_n 0, 1) := by decide +kernel
theorem dX8_gives_19 : decode cX8_gives 19 = .ok (.iload_n 2, 1) := by decide +kernel
theorem dX8_gives_20 : decode cX8_gives 20 = .ok (.iload_n 3, 1) := by decide +kernel
theorem dX8_gives_21 : decode cX8_gives 21 = .ok (.invokevirtual 219, 3) := by decide +kernel
theorem dX8_gives_24 : decode cX8_gives 24 = .ok (.iload 4, 2) := by decide +kernel
theorem dX8_gives_26 : decode cX8_gives 26 = .ok (.iadd, 1) := by decide +kernel
theorem dX8_gives_27 : decode cX8_gives 27 = .ok (.invokevirtual 215, 3) := by decide +kernel
theorem dX8_gives_30 : decode cX8_gives 30 = .ok (.return_, 1) := by decide +kernel
theorem dX8_give_0 : decode cX8_give 0 = .ok (.aload_n 0, 1) := by decide +kernel
theorem dX8_give_1 : decode cX8_give 1 = .ok (.iload_n 1, 1) := by decide +kernel
theorem dX8_give_2 : decode cX8_give 2 = .ok (.invokevirtual 234, 3) := by decide +kernel
theorem dX8_give_5 : decode cX8_give 5 = .ok (.ifCond .eq 36, 3) := by decide +kernel
theorem dX8_give_8 : decode cX8_give 8 = .ok (.aload_n 0, 1) := by decide +kernel
theorem dX8_give_9 : decode cX8_give 9 = .ok (.iload_n 2, 1) := by decide +kernel
theorem dX8_give_10 : decode cX8_give 10 = .ok (.invokevirtual 234, 3) := by decide +kernel
theorem dX8_give_13 : decode cX8_give 13 = .ok (.ifCond .eq 28, 3) := by decide +kernel
theorem dX8_give_16 : decode cX8_give 16 = .ok (.iload_n 1, 1) := by decide +kernel
theorem dX8_give_17 : decode cX8_give 17 = .ok (.iload_n 2, 1) := by decide +kernel
theorem dX8_give_18 : decode cX8_give 18 = .ok (.if_icmp .eq 23, 3) := by decide +kernel
theorem dX8_give_21 : decode cX8_give 21 = .ok (.iload_n 3, 1) := by decide +kernel
theorem dX8_give_22 : decode cX8_give 22 = .ok (.iconst 0, 1) := by decide +kernel
theorem dX8_give_23 : decode cX8_give 23 = .ok (.iconst 1, 1) := by decide +kernel
theorem dX8_give_24 : decode cX8_give 24 = .ok (.invokestatic 78, 3) := by decide +kernel
theorem dX8_give_27 : decode cX8_give 27 = .ok (.ifCond .eq 14, 3) := by decide +kernel
theorem dX8_give_30 : decode cX8_give 30 = .ok (.iload 4, 2) := by decide +kernel
theorem dX8_give_32 : decode cX8_give 32 = .ok (.iconst 1, 1) := by decide +kernel
theorem dX8_give_33 : decode cX8_give 33 = .ok (.bipush 99, 2) := by decide +kernel
theorem dX8_give_35 : decode cX8_give 35 = .ok (.invokestatic 78, 3) := by decide +kernel
theorem dX8_give_38 : decode cX8_give 38 = .ok (.ifCond .ne 5, 3) := by decide +kernel
theorem dX8_give_41 : decode cX8_give 41 = .ok (.iconst (-1), 1) := by decide +kernel
theorem dX8_give_42 : decode cX8_give 42 = .ok (.ireturn, 1) := by decide +kernel
theorem dX8_give_43 : decode cX8_give 43 = .ok (.iload_n 3, 1) := by decide +kernel
theorem dX8_give_44 : decode cX8_give 44 = .ok (.ifCond .ne 7, 3) := by decide +kernel
theorem dX8_give_47 : decode cX8_give 47 = .ok (.iconst 5, 1) := by decide +kernel
theorem dX8_give_48 : decode cX8_give 48 = .ok (.goto 5, 3) := by decide +kernel
theorem dX8_give_51 : decode cX8_give 51 = .ok (.bipush 6, 2) := by decide +kernel
theorem dX8_give_53 : decode cX8_give 53 = .ok (.istore 5, 2) := by decide +kernel
theorem dX8_give_55 : decode cX8_give 55 = .ok (.aload_n 0, 1) := by decide +kernel
theorem dX8_give_56 : decode cX8_give 56 = .ok (.iload_n 1, 1) := by decide +kernel
theorem dX8_give_57 : decode cX8_give 57 = .ok (.iload_n 2, 1) := by decide +kernel
theorem dX8_give_58 : decode cX8_give 58 = .ok (.iload 5, 2) := by decide +kernel
theorem dX8_give_60 : decode cX8_give 60 = .ok (.iload 4, 2) := by decide +kernel
theorem dX8_give_62 : decode cX8_give 62 = .ok (.invokevirtual 259, 3) := by decide +kernel
theorem dX8_give_65 : decode cX8_give 65 = .ok (.ifCond .ne 6, 3) := by decide +kernel
theorem dX8_give_68 : decode cX8_give 68 = .ok (.bipush (-4), 2) := by decide +kernel
theorem dX8_give_70 : decode cX8_give 70 = .ok (.ireturn, 1) := by decide +kernel
theorem dX8_give_71 : decode cX8_give 71 = .ok (.aload_n 0, 1) := by decide +kernel
theorem dX8_give_72 : decode cX8_give 72 = .ok (.iload_n 1, 1) := by decide +kernel
theorem dX8_give_73 : decode cX8_give 73 = .ok (.iload_n 2, 1) := by decide +kernel
theorem dX8_give_74 : decode cX8_give 74 = .ok (.iload 5, 2) := by decide +kernel
theorem dX8_give_76 : decode cX8_give 76 = .ok (.iload 4, 2) := by decide +kernel
theorem dX8_give_78 : decode cX8_give 78 = .ok (.invokevirtual 263, 3) := by decide +kernel
theorem dX8_give_81 : decode cX8_give 81 = .ok (.aload_n 0, 1) := by decide +kernel
theorem dX8_give_82 : decode cX8_give 82 = .ok (.iload_n 2, 1) := by decide +kernel
theorem dX8_give_83 : decode cX8_give 83 = .ok (.iload 5, 2) := by decide +kernel
theorem dX8_give_85 : decode cX8_give 85 = .ok (.invokevirtual 219, 3) := by decide +kernel
theorem dX8_give_88 : decode cX8_give 88 = .ok (.ireturn, 1) := by decide +kernel
theorem dX8_isTouch_0 : decode cX8_isTouch 0 = .ok (.iload_n 1, 1) := by decide +kernel
theorem dX8_isTouch_1 : decode cX8_isTouch 1 = .ok (.iload_n 2, 1) := by decide +kernel
theorem dX8_isTouch_2 : decode cX8_isTouch 2 = .ok (.if_icmp .eq 53, 3) := by decide +kernel
theorem dX8_isTouch_5 : decode cX8_isTouch 5 = .ok (.aload_n 0, 1) := by decide +kernel
theorem dX8_isTouch_6 : decode cX8_isTouch 6 = .ok (.iload_n 1, 1) := by decide +kernel
theorem dX8_isTouch_7 : decode cX8_isTouch 7 = .ok (.iconst 1, 1) := by decide +kernel
theorem dX8_isTouch_8 : decode cX8_isTouch 8 = .ok (.invokevirtual 219, 3) := by decide +kernel
theorem dX8_isTouch_11 : decode cX8_isTouch 11 = .ok (.aload_n 0, 1) := by decide +kernel
theorem dX8_isTouch_12 : decode cX8_isTouch 12 = .ok (.iload_n 2, 1) := by decide +kernel
theorem dX8_isTouch_13 : decode cX8_isTouch 13 = .ok (.iconst 1, 1) := by decide +kernel
theorem dX8_isTouch_14 : decode cX8_isTouch 14 = .ok (.invokevirtual 219, 3) := by decide +kernel
theorem dX8_isTouch_17 : decode cX8_isTouch 17 = .ok (.if_icmp .ne 38, 3) := by decide +kernel
theorem dX8_isTouch_20 : decode cX8_isTouch 20 = .ok (.aload_n 0, 1) := by decide +kernel
theorem dX8_isTouch_21 : decode cX8_isTouch 21 = .ok (.iload_n 1, 1) := by decide +kernel
theorem dX8_isTouch_22 : decode cX8_isTouch 22 = .ok (.iconst 2, 1) := by decide +kernel
theorem dX8_isTouch_23 : decode cX8_isTouch 23 = .ok (.invokevirtual 219, 3) := by decide +kernel
theorem dX8_isTouch_26 : decode cX8_isTouch 26 = .ok (.ifCond .le 29, 3) := by decide +kernel
theorem dX8_isTouch_29 : decode cX8_isTouch 29 = .ok (.aload_n 0, 1) := by decide +kernel
theorem dX8_isTouch_30 : decode cX8_isTouch 30 = .ok (.iload_n 2, 1) := by decide +kernel
theorem dX8_isTouch_31 : decode cX8_isTouch 31 = .ok (.iconst 2, 1) := by decide +kernel
theorem dX8_isTouch_32 : decode cX8_isTouch 32 = .ok (.invokevirtual 219, 3) := by decide +kernel
theorem dX8_isTouch_35 : decode cX8_isTouch 35 = .ok (.ifCond .le 20, 3) := by decide +kernel
theorem dX8_isTouch_38 : decode cX8_isTouch 38 = .ok (.aload_n 0, 1) := by decide +kernel
theorem dX8_isTouch_39 : decode cX8_isTouch 39 = .ok (.iload_n 1, 1) := by decide +kernel
theorem dX8_isTouch_40 : decode cX8_isTouch 40 = .ok (.iload_n 2, 1) := by decide +kernel
theorem dX8_isTouch_41 : decode cX8_isTouch 41 = .ok (.invokevirtual 253, 3) := by decide +kernel
theorem dX8_isTouch_44 : decode cX8_isTouch 44 = .ok (.aload_n 0, 1) := by decide +kernel
theorem dX8_isTouch_45 : decode cX8_isTouch 45 = .ok (.getfield 13, 3) := by decide +kernel
theorem dX8_isTouch_48 : decode cX8_isTouch 48 = .ok (.if_icmp .ge 7, 3) := by decide +kernel
theorem dX8_isTouch_51 : decode cX8_isTouch 51 = .ok (.iconst 1, 1) := by decide +kernel
theorem dX8_isTouch_52 : decode cX8_isTouch 52 = .ok (.goto 4, 3) := by decide +kernel
theorem dX8_isTouch_55 : decode cX8_isTouch 55 = .ok (.iconst 0, 1) := by decide +kernel
theorem dX8_isTouch_56 : decode cX8_isTouch 56 = .ok (.ireturn, 1) := by decide +kernel
theorem dX8_touchSet_0 : decode cX8_touchSet 0 = .ok (.iconst 0, 1) := by decide +kernel
theorem dX8_touchSet_1 : decode cX8_touchSet 1 = .ok (.istore_n 2, 1) := by decide +kernel
theorem dX8_touchSet_2 : decode cX8_touchSet 2 = .ok (.iconst 0, 1) := by decide +kernel
theorem dX8_touchSet_3 : decode cX8_touchSet 3 = .ok (.istore_n 3, 1) := by decide +kernel
theorem dX8_touchSet_4 : decode cX8_touchSet 4 = .ok (.iload_n 3, 1) := by decide +kernel
theorem dX8_touchSet_5 : decode cX8_touchSet 5 = .ok (.aload_n 0, 1) := by decide +kernel
theorem dX8_touchSet_6 : decode cX8_touchSet 6 = .ok (.getfield 82, 3) := by decide +kernel
theorem dX8_touchSet_9 : decode cX8_touchSet 9 = .ok (.if_icmp .ge 28, 3) := by decide +kernel
theorem dX8_touchSet_12 : decode cX8_touchSet 12 = .ok (.iload_n 2, 1) := by decide +kernel
theorem dX8_touchSet_13 : decode cX8_touchSet 13 = .ok (.aload_n 0, 1) := by decide +kernel
theorem dX8_touchSet_14 : decode cX8_touchSet 14 = .ok (.iload_n 1, 1) := by decide +kernel
theorem dX8_touchSet_15 : decode cX8_touchSet 15 = .ok (.iload_n 3, 1) := by decide +kernel
theorem dX8_touchSet_16 : decode cX8_touchSet 16 = .ok (.invokevirtual 267, 3) := by decide +kernel
theorem dX8_touchSet_19 : decode cX8_touchSet 19 = .ok (.ifCond .eq 9, 3) := by decide +kernel
theorem dX8_touchSet_22 : decode cX8_touchSet 22 = .ok (.iconst 1, 1) := by decide +kernel
theorem dX8_touchSet_23 : decode cX8_touchSet 23 = .ok (.iload_n 3, 1) := by decide +kernel
theorem dX8_touchSet_24 : decode cX8_touchSet 24 = .ok (.ishl, 1) := by decide +kernel
theorem dX8_touchSet_25 : decode cX8_touchSet 25 = .ok (.goto 4, 3) := by decide +kernel
theorem dX8_touchSet_28 : decode cX8_touchSet 28 = .ok (.iconst 0, 1) := by decide +kernel
theorem dX8_touchSet_29 : decode cX8_touchSet 29 = .ok (.ior, 1) := by decide +kernel
theorem dX8_touchSet_30 : decode cX8_touchSet 30 = .ok (.istore_n 2, 1) := by decide +kernel
theorem dX8_touchSet_31 : decode cX8_touchSet 31 = .ok (.iinc 3 1, 3) := by decide +kernel
theorem dX8_touchSet_34 : decode cX8_touchSet 34 = .ok (.goto (-30), 3) := by decide +kernel
theorem dX8_touchSet_37 : decode cX8_touchSet 37 = .ok (.iload_n 2, 1) := by decide +kernel
theorem dX8_touchSet_38 : decode cX8_touchSet 38 = .ok (.ireturn, 1) := by decide +kernel
theorem dX8_ones_0 : decode cX8_ones 0 = .ok (.iconst 0, 1) := by decide +kernel
theorem dX8_ones_1 : decode cX8_ones 1 = .ok (.istore_n 1, 1) := by decide +kernel
theorem dX8_ones_2 : decode cX8_ones 2 = .ok (.iload_n 0, 1) := by decide +kernel
theorem dX8_ones_3 : decode cX8_ones 3 = .ok (.istore_n 2, 1) := by decide +kernel
theorem dX8_ones_4 : decode cX8_ones 4 = .ok (.iload_n 2, 1) := by decide +kernel
theorem dX8_ones_5 : decode cX8_ones 5 = .ok (.ifCond .eq 15, 3) := by decide +kernel
theorem dX8_ones_8 : decode cX8_ones 8 = .ok (.iinc 1 1, 3) := by decide +kernel
theorem dX8_ones_11 : decode cX8_ones 11 = .ok (.iload_n 2, 1) := by decide +kernel
theorem dX8_ones_12 : decode cX8_ones 12 = .ok (.iload_n 2, 1) := by decide +kernel
theorem dX8_ones_13 : decode cX8_ones 13 = .ok (.iconst 1, 1) := by decide +kernel
theorem dX8_ones_14 : decode cX8_ones 14 = .ok (.isub, 1) := by decide +kernel
theorem dX8_ones_15 : decode cX8_ones 15 = .ok (.iand, 1) := by decide +kernel
theorem dX8_ones_16 : decode cX8_ones 16 = .ok (.istore_n 2, 1) := by decide +kernel
theorem dX8_ones_17 : decode cX8_ones 17 = .ok (.goto (-13), 3) := by decide +kernel
theorem dX8_ones_20 : decode cX8_ones 20 = .ok (.iload_n 1, 1) := by decide +kernel
theorem dX8_ones_21 : decode cX8_ones 21 = .ok (.ireturn, 1) := by decide +kernel
theorem dX8_pairs_0 : decode cX8_pairs 0 = .ok (.iconst 0, 1) := by decide +kernel
theorem dX8_pairs_1 : decode cX8_pairs 1 = .ok (.istore_n 1, 1) := by decide +kernel
theorem dX8_pairs_2 : decode cX8_pairs 2 = .ok (.iconst 0, 1) := by decide +kernel
theorem dX8_pairs_3 : decode cX8_pairs 3 = .ok (.istore_n 2, 1) := by decide +kernel
theorem dX8_pairs_4 : decode cX8_pairs 4 = .ok (.iload_n 2, 1) := by decide +kernel
theorem dX8_pairs_5 : decode cX8_pairs 5 = .ok (.aload_n 0, 1) := by decide +kernel
theorem dX8_pairs_6 : decode cX8_pairs 6 = .ok (.getfield 82, 3) := by decide +kernel
theorem dX8_pairs_9 : decode cX8_pairs 9 = .ok (.if_icmp .ge 20, 3) := by decide +kernel
theorem dX8_pairs_12 : decode cX8_pairs 12 = .ok (.iload_n 1, 1) := by decide +kernel
theorem dX8_pairs_13 : decode cX8_pairs 13 = .ok (.aload_n 0, 1) := by decide +kernel
theorem dX8_pairs_14 : decode cX8_pairs 14 = .ok (.iload_n 2, 1) := by decide +kernel
theorem dX8_pairs_15 : decode cX8_pairs 15 = .ok (.invokevirtual 270, 3) := by decide +kernel
theorem dX8_pairs_18 : decode cX8_pairs 18 = .ok (.invokestatic 273, 3) := by decide +kernel
theorem dX8_pairs_21 : decode cX8_pairs 21 = .ok (.iadd, 1) := by decide +kernel
theorem dX8_pairs_22 : decode cX8_pairs 22 = .ok (.istore_n 1, 1) := by decide +kernel
theorem dX8_pairs_23 : decode cX8_pairs 23 = .ok (.iinc 2 1, 3) := by decide +kernel
theorem dX8_pairs_26 : decode cX8_pairs 26 = .ok (.goto (-22), 3) := by decide +kernel
theorem dX8_pairs_29 : decode cX8_pairs 29 = .ok (.iload_n 1, 1) := by decide +kernel
theorem dX8_pairs_30 : decode cX8_pairs 30 = .ok (.iconst 2, 1) := by decide +kernel
theorem dX8_pairs_31 : decode cX8_pairs 31 = .ok (.idiv, 1) := by decide +kernel
theorem dX8_pairs_32 : decode cX8_pairs 32 = .ok (.ireturn, 1) := by decide +kernel
theorem dX8_touches_0 : decode cX8_touches 0 = .ok (.aload_n 0, 1) := by decide +kernel
theorem dX8_touches_1 : decode cX8_touches 1 = .ok (.iload_n 1, 1) := by decide +kernel
theorem dX8_touches_2 : decode cX8_touches 2 = .ok (.invokevirtual 234, 3) := by decide +kernel
theorem dX8_touches_5 : decode cX8_touches 5 = .ok (.ifCond .eq 11, 3) := by decide +kernel
theorem dX8_touches_8 : decode cX8_touches 8 = .ok (.aload_n 0, 1) := by decide +kernel
theorem dX8_touches_9 : decode cX8_touches 9 = .ok (.iload_n 1, 1) := by decide +kernel
theorem dX8_touches_10 : decode cX8_touches 10 = .ok (.invokevirtual 270, 3) := by decide +kernel
theorem dX8_touches_13 : decode cX8_touches 13 = .ok (.goto 4, 3) := by decide +kernel
theorem dX8_touches_16 : decode cX8_touches 16 = .ok (.iconst (-1), 1) := by decide +kernel
theorem dX8_touches_17 : decode cX8_touches 17 = .ok (.ireturn, 1) := by decide +kernel
theorem dX8_nearer_0 : decode cX8_nearer 0 = .ok (.iload_n 0, 1) := by decide +kernel
theorem dX8_nearer_1 : decode cX8_nearer 1 = .ok (.iload_n 1, 1) := by decide +kernel
theorem dX8_nearer_2 : decode cX8_nearer 2 = .ok (.if_icmp .ge 22, 3) := by decide +kernel
theorem dX8_nearer_5 : decode cX8_nearer 5 = .ok (.iload_n 0, 1) := by decide +kernel
theorem dX8_nearer_6 : decode cX8_nearer 6 = .ok (.bipush 10, 2) := by decide +kernel
theorem dX8_nearer_8 : decode cX8_nearer 8 = .ok (.iadd, 1) := by decide +kernel
theorem dX8_nearer_9 : decode cX8_nearer 9 = .ok (.iload_n 1, 1) := by decide +kernel
theorem dX8_nearer_10 : decode cX8_nearer 10 = .ok (.if_icmp .ge 10, 3) := by decide +kernel
theorem dX8_nearer_13 : decode cX8_nearer 13 = .ok (.iload_n 0, 1) := by decide +kernel
theorem dX8_nearer_14 : decode cX8_nearer 14 = .ok (.bipush 10, 2) := by decide +kernel
theorem dX8_nearer_16 : decode cX8_nearer 16 = .ok (.iadd, 1) := by decide +kernel
theorem dX8_nearer_17 : decode cX8_nearer 17 = .ok (.goto 23, 3) := by decide +kernel
theorem dX8_nearer_20 : decode cX8_nearer 20 = .ok (.iload_n 1, 1) := by decide +kernel
theorem dX8_nearer_21 : decode cX8_nearer 21 = .ok (.goto 19, 3) := by decide +kernel
theorem dX8_nearer_24 : decode cX8_nearer 24 = .ok (.iload_n 0, 1) := by decide +kernel
theorem dX8_nearer_25 : decode cX8_nearer 25 = .ok (.bipush 10, 2) := by decide +kernel
theorem dX8_nearer_27 : decode cX8_nearer 27 = .ok (.isub, 1) := by decide +kernel
theorem dX8_nearer_28 : decode cX8_nearer 28 = .ok (.iload_n 1, 1) := by decide +kernel
theorem dX8_nearer_29 : decode cX8_nearer 29 = .ok (.if_icmp .le 10, 3) := by decide +kernel
theorem dX8_nearer_32 : decode cX8_nearer 32 = .ok (.iload_n 0, 1) := by decide +kernel
theorem dX8_nearer_33 : decode cX8_nearer 33 = .ok (.bipush 10, 2) := by decide +kernel
theorem dX8_nearer_35 : decode cX8_nearer 35 = .ok (.isub, 1) := by decide +kernel
theorem dX8_nearer_36 : decode cX8_nearer 36 = .ok (.goto 4, 3) := by decide +kernel
theorem dX8_nearer_39 : decode cX8_nearer 39 = .ok (.iload_n 1, 1) := by decide +kernel
theorem dX8_nearer_40 : decode cX8_nearer 40 = .ok (.ireturn, 1) := by decide +kernel
theorem dX8_hourGoes_0 : decode cX8_hourGoes 0 = .ok (.iconst 0, 1) := by decide +kernel
theorem dX8_hourGoes_1 : decode cX8_hourGoes 1 = .ok (.istore_n 1, 1) := by decide +kernel
theorem dX8_hourGoes_2 : decode cX8_hourGoes 2 = .ok (.iload_n 1, 1) := by decide +kernel
theorem dX8_hourGoes_3 : decode cX8_hourGoes 3 = .ok (.aload_n 0, 1) := by decide +kernel
theorem dX8_hourGoes_4 : decode cX8_hourGoes 4 = .ok (.getfield 82, 3) := by decide +kernel
theorem dX8_hourGoes_7 : decode cX8_hourGoes 7 = .ok (.if_icmp .ge 89, 3) := by decide +kernel
theorem dX8_hourGoes_10 : decode cX8_hourGoes 10 = .ok (.aload_n 0, 1) := by decide +kernel
theorem dX8_hourGoes_11 : decode cX8_hourGoes 11 = .ok (.iload_n 1, 1) := by decide +kernel
theorem dX8_hourGoes_12 : decode cX8_hourGoes 12 = .ok (.iconst 2, 1) := by decide +kernel
theorem dX8_hourGoes_13 : decode cX8_hourGoes 13 = .ok (.aload_n 0, 1) := by decide +kernel
theorem dX8_hourGoes_14 : decode cX8_hourGoes 14 = .ok (.iload_n 1, 1) := by decide +kernel
theorem dX8_hourGoes_15 : decode cX8_hourGoes 15 = .ok (.iconst 2, 1) := by decide +kernel
theorem dX8_hourGoes_16 : decode cX8_hourGoes 16 = .ok (.invokevirtual 219, 3) := by decide +kernel
theorem dX8_hourGoes_19 : decode cX8_hourGoes 19 = .ok (.aload_n 0, 1) := by decide +kernel
theorem dX8_hourGoes_20 : decode cX8_hourGoes 20 = .ok (.iload_n 1, 1) := by decide +kernel
theorem dX8_hourGoes_21 : decode cX8_hourGoes 21 = .ok (.invokevirtual 237, 3) := by decide +kernel
theorem dX8_hourGoes_24 : decode cX8_hourGoes 24 = .ok (.invokestatic 276, 3) := by decide +kernel
theorem dX8_hourGoes_27 : decode cX8_hourGoes 27 = .ok (.invokevirtual 215, 3) := by decide +kernel
theorem dX8_hourGoes_30 : decode cX8_hourGoes 30 = .ok (.aload_n 0, 1) := by decide +kernel
theorem dX8_hourGoes_31 : decode cX8_hourGoes 31 = .ok (.iload_n 1, 1) := by decide +kernel
theorem dX8_hourGoes_32 : decode cX8_hourGoes 32 = .ok (.iconst 4, 1) := by decide +kernel
theorem dX8_hourGoes_33 : decode cX8_hourGoes 33 = .ok (.invokevirtual 219, 3) := by decide +kernel
theorem dX8_hourGoes_36 : decode cX8_hourGoes 36 = .ok (.aload_n 0, 1) := by decide +kernel
theorem dX8_hourGoes_37 : decode cX8_hourGoes 37 = .ok (.iload_n 1, 1) := by decide +kernel
theorem dX8_hourGoes_38 : decode cX8_hourGoes 38 = .ok (.invokevirtual 240, 3) := by decide +kernel
theorem dX8_hourGoes_41 : decode cX8_hourGoes 41 = .ok (.isub, 1) := by decide +kernel
theorem dX8_hourGoes_42 : decode cX8_hourGoes 42 = .ok (.istore_n 2, 1) := by decide +kernel
theorem dX8_hourGoes_43 : decode cX8_hourGoes 43 = .ok (.aload_n 0, 1) := by decide +kernel
theorem dX8_hourGoes_44 : decode cX8_hourGoes 44 = .ok (.iload_n 1, 1) := by decide +kernel
theorem dX8_hourGoes_45 : decode cX8_hourGoes 45 = .ok (.iconst 4, 1) := by decide +kernel
theorem dX8_hourGoes_46 : decode cX8_hourGoes 46 = .ok (.iload_n 2, 1) := by decide +kernel
theorem dX8_hourGoes_47 : decode cX8_hourGoes 47 = .ok (.ifCond .ge 7, 3) := by decide +kernel
theorem dX8_hourGoes_50 : decode cX8_hourGoes 50 = .ok (.iconst 0, 1) := by decide +kernel
theorem dX8_hourGoes_51 : decode cX8_hourGoes 51 = .ok (.goto 4, 3) := by decide +kernel
theorem dX8_hourGoes_54 : decode cX8_hourGoes 54 = .ok (.iload_n 2, 1) := by decide +kernel
theorem dX8_hourGoes_55 : decode cX8_hourGoes 55 = .ok (.invokevirtual 215, 3) := by decide +kernel
theorem dX8_hourGoes_58 : decode cX8_hourGoes 58 = .ok (.aload_n 0, 1) := by decide +kernel
theorem dX8_hourGoes_59 : decode cX8_hourGoes 59 = .ok (.iload_n 1, 1) := by decide +kernel
theorem dX8_hourGoes_60 : decode cX8_hourGoes 60 = .ok (.bipush 6, 2) := by decide +kernel
theorem dX8_hourGoes_62 : decode cX8_hourGoes 62 = .ok (.invokevirtual 219, 3) := by decide +kernel
theorem dX8_hourGoes_65 : decode cX8_hourGoes 65 = .ok (.aload_n 0, 1) := by decide +kernel
theorem dX8_hourGoes_66 : decode cX8_hourGoes 66 = .ok (.iload_n 1, 1) := by decide +kernel
theorem dX8_hourGoes_67 : decode cX8_hourGoes 67 = .ok (.bipush 7, 2) := by decide +kernel
theorem dX8_hourGoes_69 : decode cX8_hourGoes 69 = .ok (.invokevirtual 219, 3) := by decide +kernel
theorem dX8_hourGoes_72 : decode cX8_hourGoes 72 = .ok (.isub, 1) := by decide +kernel
theorem dX8_hourGoes_73 : decode cX8_hourGoes 73 = .ok (.istore_n 3, 1) := by decide +kernel
theorem dX8_hourGoes_74 : decode cX8_hourGoes 74 = .ok (.aload_n 0, 1) := by decide +kernel
theorem dX8_hourGoes_75 : decode cX8_hourGoes 75 = .ok (.iload_n 1, 1) := by decide +kernel
theorem dX8_hourGoes_76 : decode cX8_hourGoes 76 = .ok (.bipush 6, 2) := by decide +kernel
theorem dX8_hourGoes_78 : decode cX8_hourGoes 78 = .ok (.iload_n 3, 1) := by decide +kernel
theorem dX8_hourGoes_79 : decode cX8_hourGoes 79 = .ok (.ifCond .ge 7, 3) := by decide +kernel
theorem dX8_hourGoes_82 : decode cX8_hourGoes 82 = .ok (.iconst 0, 1) := by decide +kernel
theorem dX8_hourGoes_83 : decode cX8_hourGoes 83 = .ok (.goto 4, 3) := by decide +kernel
theorem dX8_hourGoes_86 : decode cX8_hourGoes 86 = .ok (.iload_n 3, 1) := by decide +kernel
theorem dX8_hourGoes_87 : decode cX8_hourGoes 87 = .ok (.invokevirtual 215, 3) := by decide +kernel
theorem dX8_hourGoes_90 : decode cX8_hourGoes 90 = .ok (.iinc 1 1, 3) := by decide +kernel
theorem dX8_hourGoes_93 : decode cX8_hourGoes 93 = .ok (.goto (-91), 3) := by decide +kernel
theorem dX8_hourGoes_96 : decode cX8_hourGoes 96 = .ok (.aload_n 0, 1) := by decide +kernel
theorem dX8_hourGoes_97 : decode cX8_hourGoes 97 = .ok (.getfield 23, 3) := by decide +kernel
theorem dX8_hourGoes_100 : decode cX8_hourGoes 100 = .ok (.aload_n 0, 1) := by decide +kernel
theorem dX8_hourGoes_101 : decode cX8_hourGoes 101 = .ok (.getfield 85, 3) := by decide +kernel
theorem dX8_hourGoes_104 : decode cX8_hourGoes 104 = .ok (.iconst 0, 1) := by decide +kernel
theorem dX8_hourGoes_105 : decode cX8_hourGoes 105 = .ok (.iadd, 1) := by decide +kernel
theorem dX8_hourGoes_106 : decode cX8_hourGoes 106 = .ok (.dup2, 1) := by decide +kernel
theorem dX8_hourGoes_107 : decode cX8_hourGoes 107 = .ok (.iaload, 1) := by decide +kernel
theorem dX8_hourGoes_108 : decode cX8_hourGoes 108 = .ok (.iconst 1, 1) := by decide +kernel
theorem dX8_hourGoes_109 : decode cX8_hourGoes 109 = .ok (.iadd, 1) := by decide +kernel
theorem dX8_hourGoes_110 : decode cX8_hourGoes 110 = .ok (.iastore, 1) := by decide +kernel
theorem dX8_hourGoes_111 : decode cX8_hourGoes 111 = .ok (.return_, 1) := by decide +kernel
theorem dX8_goesOn_0 : decode cX8_goesOn 0 = .ok (.aload_n 0, 1) := by decide +kernel
theorem dX8_goesOn_1 : decode cX8_goesOn 1 = .ok (.getfield 23, 3) := by decide +kernel
theorem dX8_goesOn_4 : decode cX8_goesOn 4 = .ok (.aload_n 0, 1) := by decide +kernel
theorem dX8_goesOn_5 : decode cX8_goesOn 5 = .ok (.getfield 85, 3) := by decide +kernel
theorem dX8_goesOn_8 : decode cX8_goesOn 8 = .ok (.iconst 0, 1) := by decide +kernel
theorem dX8_goesOn_9 : decode cX8_goesOn 9 = .ok (.iadd, 1) := by decide +kernel
theorem dX8_goesOn_10 : decode cX8_goesOn 10 = .ok (.iaload, 1) := by decide +kernel
theorem dX8_goesOn_11 : decode cX8_goesOn 11 = .ok (.bipush 96, 2) := by decide +kernel
theorem dX8_goesOn_13 : decode cX8_goesOn 13 = .ok (.if_icmp .ge 7, 3) := by decide +kernel
theorem dX8_goesOn_16 : decode cX8_goesOn 16 = .ok (.iconst 1, 1) := by decide +kernel
theorem dX8_goesOn_17 : decode cX8_goesOn 17 = .ok (.goto 4, 3) := by decide +kernel
theorem dX8_goesOn_20 : decode cX8_goesOn 20 = .ok (.iconst 0, 1) := by decide +kernel
theorem dX8_goesOn_21 : decode cX8_goesOn 21 = .ok (.istore_n 1, 1) := by decide +kernel
theorem dX8_goesOn_22 : decode cX8_goesOn 22 = .ok (.iload_n 1, 1) := by decide +kernel
theorem dX8_goesOn_23 : decode cX8_goesOn 23 = .ok (.ifCond .eq 7, 3) := by decide +kernel
theorem dX8_goesOn_26 : decode cX8_goesOn 26 = .ok (.aload_n 0, 1) := by decide +kernel
theorem dX8_goesOn_27 : decode cX8_goesOn 27 = .ok (.invokevirtual 279, 3) := by decide +kernel
theorem dX8_goesOn_30 : decode cX8_goesOn 30 = .ok (.iload_n 1, 1) := by decide +kernel
theorem dX8_goesOn_31 : decode cX8_goesOn 31 = .ok (.ireturn, 1) := by decide +kernel
theorem dX8_go_0 : decode cX8_go 0 = .ok (.iconst 0, 1) := by decide +kernel
theorem dX8_go_1 : decode cX8_go 1 = .ok (.istore_n 2, 1) := by decide +kernel
theorem dX8_go_2 : decode cX8_go 2 = .ok (.iload_n 2, 1) := by decide +kernel
theorem dX8_go_3 : decode cX8_go 3 = .ok (.iload_n 1, 1) := by decide +kernel
theorem dX8_go_4 : decode cX8_go 4 = .ok (.if_icmp .ge 16, 3) := by decide +kernel
theorem dX8_go_7 : decode cX8_go 7 = .ok (.aload_n 0, 1) := by decide +kernel
theorem dX8_go_8 : decode cX8_go 8 = .ok (.invokevirtual 282, 3) := by decide +kernel
theorem dX8_go_11 : decode cX8_go 11 = .ok (.ifCond .eq 9, 3) := by decide +kernel
theorem dX8_go_14 : decode cX8_go 14 = .ok (.iinc 2 1, 3) := by decide +kernel
theorem dX8_go_17 : decode cX8_go 17 = .ok (.goto (-15), 3) := by decide +kernel
theorem dX8_go_20 : decode cX8_go 20 = .ok (.return_, 1) := by decide +kernel
theorem dX8_isTrial_0 : decode cX8_isTrial 0 = .ok (.iload_n 0, 1) := by decide +kernel
theorem dX8_isTrial_1 : decode cX8_isTrial 1 = .ok (.iconst 0, 1) := by decide +kernel
theorem dX8_isTrial_2 : decode cX8_isTrial 2 = .ok (.bipush 48, 2) := by decide +kernel
theorem dX8_isTrial_4 : decode cX8_isTrial 4 = .ok (.invokestatic 78, 3) := by decide +kernel
theorem dX8_isTrial_7 : decode cX8_isTrial 7 = .ok (.ireturn, 1) := by decide +kernel
theorem dX8_isSoon_0 : decode cX8_isSoon 0 = .ok (.iload_n 0, 1) := by decide +kernel
theorem dX8_isSoon_1 : decode cX8_isSoon 1 = .ok (.iconst 0, 1) := by decide +kernel
theorem dX8_isSoon_2 : decode cX8_isSoon 2 = .ok (.bipush 24, 2) := by decide +kernel
theorem dX8_isSoon_4 : decode cX8_isSoon 4 = .ok (.invokestatic 78, 3) := by decide +kernel
theorem dX8_isSoon_7 : decode cX8_isSoon 7 = .ok (.ireturn, 1) := by decide +kernel
theorem dX8_hours_0 : decode cX8_hours 0 = .ok (.iload_n 1, 1) := by decide +kernel
theorem dX8_hours_1 : decode cX8_hours 1 = .ok (.invokestatic 286, 3) := by decide +kernel
theorem dX8_hours_4 : decode cX8_hours 4 = .ok (.ifCond .ne 5, 3) := by decide +kernel
theorem dX8_hours_7 : decode cX8_hours 7 = .ok (.iconst (-1), 1) := by decide +kernel
theorem dX8_hours_8 : decode cX8_hours 8 = .ok (.ireturn, 1) := by decide +kernel
theorem dX8_hours_9 : decode cX8_hours 9 = .ok (.aload_n 0, 1) := by decide +kernel
theorem dX8_hours_10 : decode cX8_hours 10 = .ok (.iload_n 1, 1) := by decide +kernel
theorem dX8_hours_11 : decode cX8_hours 11 = .ok (.invokevirtual 289, 3) := by decide +kernel
theorem dX8_hours_14 : decode cX8_hours 14 = .ok (.aload_n 0, 1) := by decide +kernel
theorem dX8_hours_15 : decode cX8_hours 15 = .ok (.getfield 23, 3) := by decide +kernel
theorem dX8_hours_18 : decode cX8_hours 18 = .ok (.iconst 0, 1) := by decide +kernel
theorem dX8_hours_19 : decode cX8_hours 19 = .ok (.iaload, 1) := by decide +kernel
theorem dX8_hours_20 : decode cX8_hours 20 = .ok (.ireturn, 1) := by decide +kernel
theorem dX8_clock_0 : decode cX8_clock 0 = .ok (.iload_n 1, 1) := by decide +kernel
theorem dX8_clock_1 : decode cX8_clock 1 = .ok (.iconst 0, 1) := by decide +kernel
theorem dX8_clock_2 : decode cX8_clock 2 = .ok (.bipush 96, 2) := by decide +kernel
theorem dX8_clock_4 : decode cX8_clock 4 = .ok (.invokestatic 78, 3) := by decide +kernel
theorem dX8_clock_7 : decode cX8_clock 7 = .ok (.ifCond .ne 5, 3) := by decide +kernel
theorem dX8_clock_10 : decode cX8_clock 10 = .ok (.iconst (-1), 1) := by decide +kernel
theorem dX8_clock_11 : decode cX8_clock 11 = .ok (.ireturn, 1) := by decide +kernel
theorem dX8_clock_12 : decode cX8_clock 12 = .ok (.aload_n 0, 1) := by decide +kernel
theorem dX8_clock_13 : decode cX8_clock 13 = .ok (.getfield 23, 3) := by decide +kernel
theorem dX8_clock_16 : decode cX8_clock 16 = .ok (.iconst 0, 1) := by decide +kernel
theorem dX8_clock_17 : decode cX8_clock 17 = .ok (.iaload, 1) := by decide +kernel
theorem dX8_clock_18 : decode cX8_clock 18 = .ok (.istore_n 2, 1) := by decide +kernel
theorem dX8_clock_19 : decode cX8_clock 19 = .ok (.aload_n 0, 1) := by decide +kernel
theorem dX8_clock_20 : decode cX8_clock 20 = .ok (.getfield 23, 3) := by decide +kernel
theorem dX8_clock_23 : decode cX8_clock 23 = .ok (.iconst 0, 1) := by decide +kernel
theorem dX8_clock_24 : decode cX8_clock 24 = .ok (.iload_n 1, 1) := by decide +kernel
theorem dX8_clock_25 : decode cX8_clock 25 = .ok (.iastore, 1) := by decide +kernel
theorem dX8_clock_26 : decode cX8_clock 26 = .ok (.iload_n 2, 1) := by decide +kernel
theorem dX8_clock_27 : decode cX8_clock 27 = .ok (.ireturn, 1) := by decide +kernel
theorem dX8_lends_0 : decode cX8_lends 0 = .ok (.aload_n 0, 1) := by decide +kernel
theorem dX8_lends_1 : decode cX8_lends 1 = .ok (.iconst 0, 1) := by decide +kernel
theorem dX8_lends_2 : decode cX8_lends 2 = .ok (.putfield 85, 3) := by decide +kernel
theorem dX8_lends_5 : decode cX8_lends 5 = .ok (.iconst 0, 1) := by decide +kernel
theorem dX8_lends_6 : decode cX8_lends 6 = .ok (.istore_n 1, 1) := by decide +kernel
theorem dX8_lends_7 : decode cX8_lends 7 = .ok (.iload_n 1, 1) := by decide +kernel
theorem dX8_lends_8 : decode cX8_lends 8 = .ok (.bipush 43, 2) := by decide +kernel
theorem dX8_lends_10 : decode cX8_lends 10 = .ok (.if_icmp .ge 24, 3) := by decide +kernel
theorem dX8_lends_13 : decode cX8_lends 13 = .ok (.aload_n 0, 1) := by decide +kernel
theorem dX8_lends_14 : decode cX8_lends 14 = .ok (.getfield 23, 3) := by decide +kernel
theorem dX8_lends_17 : decode cX8_lends 17 = .ok (.bipush 43, 2) := by decide +kernel
theorem dX8_lends_19 : decode cX8_lends 19 = .ok (.iload_n 1, 1) := by decide +kernel
theorem dX8_lends_20 : decode cX8_lends 20 = .ok (.iadd, 1) := by decide +kernel
theorem dX8_lends_21 : decode cX8_lends 21 = .ok (.aload_n 0, 1) := by decide +kernel
theorem dX8_lends_22 : decode cX8_lends 22 = .ok (.getfield 23, 3) := by decide +kernel
theorem dX8_lends_25 : decode cX8_lends 25 = .ok (.iload_n 1, 1) := by decide +kernel
theorem dX8_lends_26 : decode cX8_lends 26 = .ok (.iaload, 1) := by decide +kernel
theorem dX8_lends_27 : decode cX8_lends 27 = .ok (.iastore, 1) := by decide +kernel
theorem dX8_lends_28 : decode cX8_lends 28 = .ok (.iinc 1 1, 3) := by decide +kernel
theorem dX8_lends_31 : decode cX8_lends 31 = .ok (.goto (-24), 3) := by decide +kernel
theorem dX8_lends_34 : decode cX8_lends 34 = .ok (.aload_n 0, 1) := by decide +kernel
theorem dX8_lends_35 : decode cX8_lends 35 = .ok (.bipush 43, 2) := by decide +kernel
theorem dX8_lends_37 : decode cX8_lends 37 = .ok (.putfield 85, 3) := by decide +kernel
theorem dX8_lends_40 : decode cX8_lends 40 = .ok (.return_, 1) := by decide +kernel
theorem dX8_height_0 : decode cX8_height 0 = .ok (.aload_n 0, 1) := by decide +kernel
theorem dX8_height_1 : decode cX8_height 1 = .ok (.iload_n 1, 1) := by decide +kernel
theorem dX8_height_2 : decode cX8_height 2 = .ok (.invokevirtual 234, 3) := by decide +kernel
theorem dX8_height_5 : decode cX8_height 5 = .ok (.ifCond .eq 10, 3) := by decide +kernel
theorem dX8_height_8 : decode cX8_height 8 = .ok (.iload_n 2, 1) := by decide +kernel
theorem dX8_height_9 : decode cX8_height 9 = .ok (.invokestatic 286, 3) := by decide +kernel
theorem dX8_height_12 : decode cX8_height 12 = .ok (.ifCond .ne 5, 3) := by decide +kernel
theorem dX8_height_15 : decode cX8_height 15 = .ok (.iconst (-1), 1) := by decide +kernel
theorem dX8_height_16 : decode cX8_height 16 = .ok (.ireturn, 1) := by decide +kernel
theorem dX8_height_17 : decode cX8_height 17 = .ok (.aload_n 0, 1) := by decide +kernel
theorem dX8_height_18 : decode cX8_height 18 = .ok (.invokevirtual 292, 3) := by decide +kernel
theorem dX8_height_21 : decode cX8_height 21 = .ok (.aload_n 0, 1) := by decide +kernel
theorem dX8_height_22 : decode cX8_height 22 = .ok (.iload_n 2, 1) := by decide +kernel
theorem dX8_height_23 : decode cX8_height 23 = .ok (.invokevirtual 289, 3) := by decide +kernel
theorem dX8_height_26 : decode cX8_height 26 = .ok (.aload_n 0, 1) := by decide +kernel
theorem dX8_height_27 : decode cX8_height 27 = .ok (.iload_n 1, 1) := by decide +kernel
theorem dX8_height_28 : decode cX8_height 28 = .ok (.iconst 2, 1) := by decide +kernel
theorem dX8_height_29 : decode cX8_height 29 = .ok (.invokevirtual 219, 3) := by decide +kernel
theorem dX8_height_32 : decode cX8_height 32 = .ok (.istore_n 3, 1) := by decide +kernel
theorem dX8_height_33 : decode cX8_height 33 = .ok (.aload_n 0, 1) := by decide +kernel
theorem dX8_height_34 : decode cX8_height 34 = .ok (.iconst 0, 1) := by decide +kernel
theorem dX8_height_35 : decode cX8_height 35 = .ok (.putfield 85, 3) := by decide +kernel
theorem dX8_height_38 : decode cX8_height 38 = .ok (.iload_n 3, 1) := by decide +kernel
theorem dX8_height_39 : decode cX8_height 39 = .ok (.ireturn, 1) := by decide +kernel
theorem dX8_firstPair_0 : decode cX8_firstPair 0 = .ok (.iconst 0, 1) := by decide +kernel
theorem dX8_firstPair_1 : decode cX8_firstPair 1 = .ok (.istore_n 1, 1) := by decide +kernel
theorem dX8_firstPair_2 : decode cX8_firstPair 2 = .ok (.iload_n 1, 1) := by decide +kernel
theorem dX8_firstPair_3 : decode cX8_firstPair 3 = .ok (.aload_n 0, 1) := by decide +kernel
theorem dX8_firstPair_4 : decode cX8_firstPair 4 = .ok (.getfield 82, 3) := by decide +kernel
theorem dX8_firstPair_7 : decode cX8_firstPair 7 = .ok (.if_icmp .ge 43, 3) := by decide +kernel
theorem dX8_firstPair_10 : decode cX8_firstPair 10 = .ok (.iload_n 1, 1) := by decide +kernel
theorem dX8_firstPair_11 : decode cX8_firstPair 11 = .ok (.iconst 1, 1) := by decide +kernel
theorem dX8_firstPair_12 : decode cX8_firstPair 12 = .ok (.iadd, 1) := by decide +kernel
theorem dX8_firstPair_13 : decode cX8_firstPair 13 = .ok (.istore_n 2, 1) := by decide +kernel
theorem dX8_firstPair_14 : decode cX8_firstPair 14 = .ok (.iload_n 2, 1) := by decide +kernel
theorem dX8_firstPair_15 : decode cX8_firstPair 15 = .ok (.aload_n 0, 1) := by decide +kernel
theorem dX8_firstPair_16 : decode cX8_firstPair 16 = .ok (.getfield 82, 3) := by decide +kernel
theorem dX8_firstPair_19 : decode cX8_firstPair 19 = .ok (.if_icmp .ge 25, 3) := by decide +kernel
theorem dX8_firstPair_22 : decode cX8_firstPair 22 = .ok (.aload_n 0, 1) := by decide +kernel
theorem dX8_firstPair_23 : decode cX8_firstPair 23 = .ok (.iload_n 1, 1) := by decide +kernel
theorem dX8_firstPair_24 : decode cX8_firstPair 24 = .ok (.iload_n 2, 1) := by decide +kernel
theorem dX8_firstPair_25 : decode cX8_firstPair 25 = .ok (.invokevirtual 267, 3) := by decide +kernel
theorem dX8_firstPair_28 : decode cX8_firstPair 28 = .ok (.ifCond .eq 10, 3) := by decide +kernel
theorem dX8_firstPair_31 : decode cX8_firstPair 31 = .ok (.bipush 10, 2) := by decide +kernel
theorem dX8_firstPair_33 : decode cX8_firstPair 33 = .ok (.iload_n 1, 1) := by decide +kernel
theorem dX8_firstPair_34 : decode cX8_firstPair 34 = .ok (.imul, 1) := by decide +kernel
theorem dX8_firstPair_35 : decode cX8_firstPair 35 = .ok (.iload_n 2, 1) := by decide +kernel
theorem dX8_firstPair_36 : decode cX8_firstPair 36 = .ok (.iadd, 1) := by decide +kernel
theorem dX8_firstPair_37 : decode cX8_firstPair 37 = .ok (.ireturn, 1) := by decide +kernel
theorem dX8_firstPair_38 : decode cX8_firstPair 38 = .ok (.iinc 2 1, 3) := by decide +kernel
theorem dX8_firstPair_41 : decode cX8_firstPair 41 = .ok (.goto (-27), 3) := by decide +kernel
theorem dX8_firstPair_44 : decode cX8_firstPair 44 = .ok (.iinc 1 1, 3) := by decide +kernel
theorem dX8_firstPair_47 : decode cX8_firstPair 47 = .ok (.goto (-45), 3) := by decide +kernel
theorem dX8_firstPair_50 : decode cX8_firstPair 50 = .ok (.bipush (-3), 2) := by decide +kernel
theorem dX8_firstPair_52 : decode cX8_firstPair 52 = .ok (.ireturn, 1) := by decide +kernel
theorem dX8_first_0 : decode cX8_first 0 = .ok (.iload_n 1, 1) := by decide +kernel
theorem dX8_first_1 : decode cX8_first 1 = .ok (.iconst 0, 1) := by decide +kernel
theorem dX8_first_2 : decode cX8_first 2 = .ok (.iconst 1, 1) := by decide +kernel
theorem dX8_first_3 : decode cX8_first 3 = .ok (.invokestatic 78, 3) := by decide +kernel
theorem dX8_first_6 : decode cX8_first 6 = .ok (.ifCond .ne 5, 3) := by decide +kernel
theorem dX8_first_9 : decode cX8_first 9 = .ok (.iconst (-1), 1) := by decide +kernel
theorem dX8_first_10 : decode cX8_first 10 = .ok (.ireturn, 1) := by decide +kernel
theorem dX8_first_11 : decode cX8_first 11 = .ok (.aload_n 0, 1) := by decide +kernel
theorem dX8_first_12 : decode cX8_first 12 = .ok (.invokevirtual 292, 3) := by decide +kernel
theorem dX8_first_15 : decode cX8_first 15 = .ok (.iconst 0, 1) := by decide +kernel
theorem dX8_first_16 : decode cX8_first 16 = .ok (.istore_n 2, 1) := by decide +kernel
theorem dX8_first_17 : decode cX8_first 17 = .ok (.aload_n 0, 1) := by decide +kernel
theorem dX8_first_18 : decode cX8_first 18 = .ok (.invokevirtual 295, 3) := by decide +kernel
theorem dX8_first_21 : decode cX8_first 21 = .ok (.istore_n 3, 1) := by decide +kernel
theorem dX8_first_22 : decode cX8_first 22 = .ok (.iload_n 3, 1) := by decide +kernel
theorem dX8_first_23 : decode cX8_first 23 = .ok (.ifCond .ge 27, 3) := by decide +kernel
theorem dX8_first_26 : decode cX8_first 26 = .ok (.iload_n 2, 1) := by decide +kernel
theorem dX8_first_27 : decode cX8_first 27 = .ok (.bipush 48, 2) := by decide +kernel
theorem dX8_first_29 : decode cX8_first 29 = .ok (.if_icmp .ge 21, 3) := by decide +kernel
theorem dX8_first_32 : decode cX8_first 32 = .ok (.aload_n 0, 1) := by decide +kernel
theorem dX8_first_33 : decode cX8_first 33 = .ok (.invokevirtual 282, 3) := by decide +kernel
theorem dX8_first_36 : decode cX8_first 36 = .ok (.ifCond .eq 14, 3) := by decide +kernel
theorem dX8_first_39 : decode cX8_first 39 = .ok (.iinc 2 1, 3) := by decide +kernel
theorem dX8_first_42 : decode cX8_first 42 = .ok (.aload_n 0, 1) := by decide +kernel
theorem dX8_first_43 : decode cX8_first 43 = .ok (.invokevirtual 295, 3) := by decide +kernel
theorem dX8_first_46 : decode cX8_first 46 = .ok (.istore_n 3, 1) := by decide +kernel
theorem dX8_first_47 : decode cX8_first 47 = .ok (.goto (-25), 3) := by decide +kernel
theorem dX8_first_50 : decode cX8_first 50 = .ok (.aload_n 0, 1) := by decide +kernel
theorem dX8_first_51 : decode cX8_first 51 = .ok (.iconst 0, 1) := by decide +kernel
theorem dX8_first_52 : decode cX8_first 52 = .ok (.putfield 85, 3) := by decide +kernel
theorem dX8_first_55 : decode cX8_first 55 = .ok (.iload_n 3, 1) := by decide +kernel
theorem dX8_first_56 : decode cX8_first 56 = .ok (.ifCond .ge 8, 3) := by decide +kernel
theorem dX8_first_59 : decode cX8_first 59 = .ok (.bipush (-3), 2) := by decide +kernel
theorem dX8_first_61 : decode cX8_first 61 = .ok (.goto 12, 3) := by decide +kernel
theorem dX8_first_64 : decode cX8_first 64 = .ok (.iload_n 1, 1) := by decide +kernel
theorem dX8_first_65 : decode cX8_first 65 = .ok (.ifCond .ne 7, 3) := by decide +kernel
theorem dX8_first_68 : decode cX8_first 68 = .ok (.iload_n 2, 1) := by decide +kernel
theorem dX8_first_69 : decode cX8_first 69 = .ok (.goto 4, 3) := by decide +kernel
theorem dX8_first_72 : decode cX8_first 72 = .ok (.iload_n 3, 1) := by decide +kernel
theorem dX8_first_73 : decode cX8_first 73 = .ok (.ireturn, 1) := by decide +kernel
theorem dX8_isClear_0 : decode cX8_isClear 0 = .ok (.aload_n 0, 1) := by decide +kernel
theorem dX8_isClear_1 : decode cX8_isClear 1 = .ok (.iload_n 1, 1) := by decide +kernel
theorem dX8_isClear_2 : decode cX8_isClear 2 = .ok (.invokevirtual 270, 3) := by decide +kernel
theorem dX8_isClear_5 : decode cX8_isClear 5 = .ok (.ifCond .ne 7, 3) := by decide +kernel
theorem dX8_isClear_8 : decode cX8_isClear 8 = .ok (.iconst 1, 1) := by decide +kernel
theorem dX8_isClear_9 : decode cX8_isClear 9 = .ok (.goto 4, 3) := by decide +kernel
theorem dX8_isClear_12 : decode cX8_isClear 12 = .ok (.iconst 0, 1) := by decide +kernel
theorem dX8_isClear_13 : decode cX8_isClear 13 = .ok (.istore_n 3, 1) := by decide +kernel
theorem dX8_isClear_14 : decode cX8_isClear 14 = .ok (.iconst 0, 1) := by decide +kernel
theorem dX8_isClear_15 : decode cX8_isClear 15 = .ok (.istore 4, 2) := by decide +kernel
theorem dX8_isClear_17 : decode cX8_isClear 17 = .ok (.iload_n 3, 1) := by decide +kernel
theorem dX8_isClear_18 : decode cX8_isClear 18 = .ok (.ifCond .eq 36, 3) := by decide +kernel
theorem dX8_isClear_21 : decode cX8_isClear 21 = .ok (.iload 4, 2) := by decide +kernel
theorem dX8_isClear_23 : decode cX8_isClear 23 = .ok (.iload_n 2, 1) := by decide +kernel
theorem dX8_isClear_24 : decode cX8_isClear 24 = .ok (.if_icmp .ge 30, 3) := by decide +kernel
theorem dX8_isClear_27 : decode cX8_isClear 27 = .ok (.aload_n 0, 1) := by decide +kernel
theorem dX8_isClear_28 : decode cX8_isClear 28 = .ok (.invokevirtual 282, 3) := by decide +kernel
theorem dX8_isClear_31 : decode cX8_isClear 31 = .ok (.ifCond .eq 23, 3) := by decide +kernel
theorem dX8_isClear_34 : decode cX8_isClear 34 = .ok (.aload_n 0, 1) := by decide +kernel
theorem dX8_isClear_35 : decode cX8_isClear 35 = .ok (.iload_n 1, 1) := by decide +kernel
theorem dX8_isClear_36 : decode cX8_isClear 36 = .ok (.invokevirtual 270, 3) := by decide +kernel
theorem dX8_isClear_39 : decode cX8_isClear 39 = .ok (.ifCond .ne 7, 3) := by decide +kernel
theorem dX8_isClear_42 : decode cX8_isClear 42 = .ok (.iconst 1, 1) := by decide +kernel
theorem dX8_isClear_43 : decode cX8_isClear 43 = .ok (.goto 4, 3) := by decide +kernel
theorem dX8_isClear_46 : decode cX8_isClear 46 = .ok (.iconst 0, 1) := by decide +kernel
theorem dX8_isClear_47 : decode cX8_isClear 47 = .ok (.istore_n 3, 1) := by decide +kernel
theorem dX8_isClear_48 : decode cX8_isClear 48 = .ok (.iinc 4 1, 3) := by decide +kernel
theorem dX8_isClear_51 : decode cX8_isClear 51 = .ok (.goto (-34), 3) := by decide +kernel
theorem dX8_isClear_54 : decode cX8_isClear 54 = .ok (.iload_n 3, 1) := by decide +kernel
theorem dX8_isClear_55 : decode cX8_isClear 55 = .ok (.ireturn, 1) := by decide +kernel
theorem dX8_isClearWith_0 : decode cX8_isClearWith 0 = .ok (.aload_n 0, 1) := by decide +kernel
theorem dX8_isClearWith_1 : decode cX8_isClearWith 1 = .ok (.invokevirtual 292, 3) := by decide +kernel
theorem dX8_isClearWith_4 : decode cX8_isClearWith 4 = .ok (.aload_n 0, 1) := by decide +kernel
theorem dX8_isClearWith_5 : decode cX8_isClearWith 5 = .ok (.iload_n 1, 1) := by decide +kernel
theorem dX8_isClearWith_6 : decode cX8_isClearWith 6 = .ok (.iload_n 2, 1) := by decide +kernel
theorem dX8_isClearWith_7 : decode cX8_isClearWith 7 = .ok (.iload_n 3, 1) := by decide +kernel
theorem dX8_isClearWith_8 : decode cX8_isClearWith 8 = .ok (.invokevirtual 215, 3) := by decide +kernel
theorem dX8_isClearWith_11 : decode cX8_isClearWith 11 = .ok (.aload_n 0, 1) := by decide +kernel
theorem dX8_isClearWith_12 : decode cX8_isClearWith 12 = .ok (.iload_n 1, 1) := by decide +kernel
theorem dX8_isClearWith_13 : decode cX8_isClearWith 13 = .ok (.iload 4, 2) := by decide +kernel
theorem dX8_isClearWith_15 : decode cX8_isClearWith 15 = .ok (.invokevirtual 298, 3) := by decide +kernel
theorem dX8_isClearWith_18 : decode cX8_isClearWith 18 = .ok (.istore 5, 2) := by decide +kernel
theorem dX8_isClearWith_20 : decode cX8_isClearWith 20 = .ok (.aload_n 0, 1) := by decide +kernel
theorem dX8_isClearWith_21 : decode cX8_isClearWith 21 = .ok (.iconst 0, 1) := by decide +kernel
theorem dX8_isClearWith_22 : decode cX8_isClearWith 22 = .ok (.putfield 85, 3) := by decide +kernel
theorem dX8_isClearWith_25 : decode cX8_isClearWith 25 = .ok (.iload 5, 2) := by decide +kernel
theorem dX8_isClearWith_27 : decode cX8_isClearWith 27 = .ok (.ireturn, 1) := by decide +kernel
theorem dX8_clear_0 : decode cX8_clear 0 = .ok (.aload_n 0, 1) := by decide +kernel
theorem dX8_clear_1 : decode cX8_clear 1 = .ok (.iload_n 1, 1) := by decide +kernel
theorem dX8_clear_2 : decode cX8_clear 2 = .ok (.invokevirtual 234, 3) := by decide +kernel
theorem dX8_clear_5 : decode cX8_clear 5 = .ok (.ifCond .eq 10, 3) := by decide +kernel
theorem dX8_clear_8 : decode cX8_clear 8 = .ok (.iload_n 2, 1) := by decide +kernel
theorem dX8_clear_9 : decode cX8_clear 9 = .ok (.invokestatic 286, 3) := by decide +kernel
theorem dX8_clear_12 : decode cX8_clear 12 = .ok (.ifCond .ne 5, 3) := by decide +kernel
theorem dX8_clear_15 : decode cX8_clear 15 = .ok (.iconst (-1), 1) := by decide +kernel
theorem dX8_clear_16 : decode cX8_clear 16 = .ok (.ireturn, 1) := by decide +kernel
theorem dX8_clear_17 : decode cX8_clear 17 = .ok (.aload_n 0, 1) := by decide +kernel
theorem dX8_clear_18 : decode cX8_clear 18 = .ok (.iload_n 1, 1) := by decide +kernel
theorem dX8_clear_19 : decode cX8_clear 19 = .ok (.iconst 1, 1) := by decide +kernel
theorem dX8_clear_20 : decode cX8_clear 20 = .ok (.aload_n 0, 1) := by decide +kernel
theorem dX8_clear_21 : decode cX8_clear 21 = .ok (.iload_n 1, 1) := by decide +kernel
theorem dX8_clear_22 : decode cX8_clear 22 = .ok (.iconst 1, 1) := by decide +kernel
theorem dX8_clear_23 : decode cX8_clear 23 = .ok (.invokevirtual 219, 3) := by decide +kernel
theorem dX8_clear_26 : decode cX8_clear 26 = .ok (.iload_n 2, 1) := by decide +kernel
theorem dX8_clear_27 : decode cX8_clear 27 = .ok (.invokevirtual 301, 3) := by decide +kernel
theorem dX8_clear_30 : decode cX8_clear 30 = .ok (.ifCond .eq 7, 3) := by decide +kernel
theorem dX8_clear_33 : decode cX8_clear 33 = .ok (.iconst 1, 1) := by decide +kernel
theorem dX8_clear_34 : decode cX8_clear 34 = .ok (.goto 4, 3) := by decide +kernel
theorem dX8_clear_37 : decode cX8_clear 37 = .ok (.iconst 0, 1) := by decide +kernel
theorem dX8_clear_38 : decode cX8_clear 38 = .ok (.ireturn, 1) := by decide +kernel
theorem dX8_leastSand_0 : decode cX8_leastSand 0 = .ok (.aload_n 0, 1) := by decide +kernel
theorem dX8_leastSand_1 : decode cX8_leastSand 1 = .ok (.iload_n 1, 1) := by decide +kernel
theorem dX8_leastSand_2 : decode cX8_leastSand 2 = .ok (.invokevirtual 234, 3) := by decide +kernel
theorem dX8_leastSand_5 : decode cX8_leastSand 5 = .ok (.ifCond .eq 10, 3) := by decide +kernel
theorem dX8_leastSand_8 : decode cX8_leastSand 8 = .ok (.iload_n 2, 1) := by decide +kernel
theorem dX8_leastSand_9 : decode cX8_leastSand 9 = .ok (.invokestatic 304, 3) := by decide +kernel
theorem dX8_leastSand_12 : decode cX8_leastSand 12 = .ok (.ifCond .ne 5, 3) := by decide +kernel
theorem dX8_leastSand_15 : decode cX8_leastSand 15 = .ok (.iconst (-1), 1) := by decide +kernel
theorem dX8_leastSand_16 : decode cX8_leastSand 16 = .ok (.ireturn, 1) := by decide +kernel
theorem dX8_leastSand_17 : decode cX8_leastSand 17 = .ok (.aload_n 0, 1) := by decide +kernel
theorem dX8_leastSand_18 : decode cX8_leastSand 18 = .ok (.iload_n 1, 1) := by decide +kernel
theorem dX8_leastSand_19 : decode cX8_leastSand 19 = .ok (.iconst 5, 1) := by decide +kernel
theorem dX8_leastSand_20 : decode cX8_leastSand 20 = .ok (.invokevirtual 219, 3) := by decide +kernel
theorem dX8_leastSand_23 : decode cX8_leastSand 23 = .ok (.istore_n 3, 1) := by decide +kernel
theorem dX8_leastSand_24 : decode cX8_leastSand 24 = .ok (.iconst 0, 1) := by decide +kernel
theorem dX8_leastSand_25 : decode cX8_leastSand 25 = .ok (.istore 4, 2) := by decide +kernel
theorem dX8_leastSand_27 : decode cX8_leastSand 27 = .ok (.iload 4, 2) := by decide +kernel
theorem dX8_leastSand_29 : decode cX8_leastSand 29 = .ok (.iload_n 3, 1) := by decide +kernel
theorem dX8_leastSand_30 : decode cX8_leastSand 30 = .ok (.if_icmp .gt 23, 3) := by decide +kernel
theorem dX8_leastSand_33 : decode cX8_leastSand 33 = .ok (.aload_n 0, 1) := by decide +kernel
theorem dX8_leastSand_34 : decode cX8_leastSand 34 = .ok (.iload_n 1, 1) := by decide +kernel
theorem dX8_leastSand_35 : decode cX8_leastSand 35 = .ok (.iconst 5, 1) := by decide +kernel
theorem dX8_leastSand_36 : decode cX8_leastSand 36 = .ok (.iload_n 3, 1) := by decide +kernel
theorem dX8_leastSand_37 : decode cX8_leastSand 37 = .ok (.iload 4, 2) := by decide +kernel
theorem dX8_leastSand_39 : decode cX8_leastSand 39 = .ok (.isub, 1) := by decide +kernel
theorem dX8_leastSand_40 : decode cX8_leastSand 40 = .ok (.iload_n 2, 1) := by decide +kernel
theorem dX8_leastSand_41 : decode cX8_leastSand 41 = .ok (.invokevirtual 301, 3) := by decide +kernel
theorem dX8_leastSand_44 : decode cX8_leastSand 44 = .ok (.ifCond .ne 9, 3) := by decide +kernel
theorem dX8_leastSand_47 : decode cX8_leastSand 47 = .ok (.iinc 4 1, 3) := by decide +kernel
theorem dX8_leastSand_50 : decode cX8_leastSand 50 = .ok (.goto (-23), 3) := by decide +kernel
theorem dX8_leastSand_53 : decode cX8_leastSand 53 = .ok (.iload 4, 2) := by decide +kernel
theorem dX8_leastSand_55 : decode cX8_leastSand 55 = .ok (.iload_n 3, 1) := by decide +kernel
theorem dX8_leastSand_56 : decode cX8_leastSand 56 = .ok (.if_icmp .gt 8, 3) := by decide +kernel
theorem dX8_leastSand_59 : decode cX8_leastSand 59 = .ok (.iload 4, 2) := by decide +kernel
theorem dX8_leastSand_61 : decode cX8_leastSand 61 = .ok (.goto 5, 3) := by decide +kernel
theorem dX8_leastSand_64 : decode cX8_leastSand 64 = .ok (.bipush (-3), 2) := by decide +kernel
theorem dX8_leastSand_66 : decode cX8_leastSand 66 = .ok (.ireturn, 1) := by decide +kernel
theorem dX8_ropeFor_0 : decode cX8_ropeFor 0 = .ok (.aload_n 0, 1) := by decide +kernel
theorem dX8_ropeFor_1 : decode cX8_ropeFor 1 = .ok (.iload_n 1, 1) := by decide +kernel
theorem dX8_ropeFor_2 : decode cX8_ropeFor 2 = .ok (.invokevirtual 234, 3) := by decide +kernel
theorem dX8_ropeFor_5 : decode cX8_ropeFor 5 = .ok (.ifCond .eq 10, 3) := by decide +kernel
theorem dX8_ropeFor_8 : decode cX8_ropeFor 8 = .ok (.iload_n 2, 1) := by decide +kernel
theorem dX8_ropeFor_9 : decode cX8_ropeFor 9 = .ok (.invokestatic 304, 3) := by decide +kernel
theorem dX8_ropeFor_12 : decode cX8_ropeFor 12 = .ok (.ifCond .ne 5, 3) := by decide +kernel
theorem dX8_ropeFor_15 : decode cX8_ropeFor 15 = .ok (.iconst (-1), 1) := by decide +kernel
theorem dX8_ropeFor_16 : decode cX8_ropeFor 16 = .ok (.ireturn, 1) := by decide +kernel
theorem dX8_ropeFor_17 : decode cX8_ropeFor 17 = .ok (.bipush 99, 2) := by decide +kernel
theorem dX8_ropeFor_19 : decode cX8_ropeFor 19 = .ok (.istore_n 3, 1) := by decide +kernel
theorem dX8_ropeFor_20 : decode cX8_ropeFor 20 = .ok (.iload_n 3, 1) := by decide +kernel
theorem dX8_ropeFor_21 : decode cX8_ropeFor 21 = .ok (.ifCond .le 20, 3) := by decide +kernel
theorem dX8_ropeFor_24 : decode cX8_ropeFor 24 = .ok (.aload_n 0, 1) := by decide +kernel
theorem dX8_ropeFor_25 : decode cX8_ropeFor 25 = .ok (.iload_n 1, 1) := by decide +kernel
theorem dX8_ropeFor_26 : decode cX8_ropeFor 26 = .ok (.iconst 3, 1) := by decide +kernel
theorem dX8_ropeFor_27 : decode cX8_ropeFor 27 = .ok (.iload_n 3, 1) := by decide +kernel
theorem dX8_ropeFor_28 : decode cX8_ropeFor 28 = .ok (.iload_n 2, 1) := by decide +kernel
theorem dX8_ropeFor_29 : decode cX8_ropeFor 29 = .ok (.invokevirtual 301, 3) := by decide +kernel
theorem dX8_ropeFor_32 : decode cX8_ropeFor 32 = .ok (.ifCond .ne 9, 3) := by decide +kernel
theorem dX8_ropeFor_35 : decode cX8_ropeFor 35 = .ok (.iinc 3 (-1), 3) := by decide +kernel
theorem dX8_ropeFor_38 : decode cX8_ropeFor 38 = .ok (.goto (-18), 3) := by decide +kernel
theorem dX8_ropeFor_41 : decode cX8_ropeFor 41 = .ok (.iload_n 3, 1) := by decide +kernel
theorem dX8_ropeFor_42 : decode cX8_ropeFor 42 = .ok (.ifCond .le 7, 3) := by decide +kernel
theorem dX8_ropeFor_45 : decode cX8_ropeFor 45 = .ok (.iload_n 3, 1) := by decide +kernel
theorem dX8_ropeFor_46 : decode cX8_ropeFor 46 = .ok (.goto 5, 3) := by decide +kernel
theorem dX8_ropeFor_49 : decode cX8_ropeFor 49 = .ok (.bipush (-3), 2) := by decide +kernel
theorem dX8_ropeFor_51 : decode cX8_ropeFor 51 = .ok (.ireturn, 1) := by decide +kernel
theorem dX8_columnFor_0 : decode cX8_columnFor 0 = .ok (.aload_n 0, 1) := by decide +kernel
theorem dX8_columnFor_1 : decode cX8_columnFor 1 = .ok (.iload_n 1, 1) := by decide +kernel
theorem dX8_columnFor_2 : decode cX8_columnFor 2 = .ok (.invokevirtual 234, 3) := by decide +kernel
theorem dX8_columnFor_5 : decode cX8_columnFor 5 = .ok (.ifCond .eq 10, 3) := by decide +kernel
theorem dX8_columnFor_8 : decode cX8_columnFor 8 = .ok (.iload_n 2, 1) := by decide +kernel
theorem dX8_columnFor_9 : decode cX8_columnFor 9 = .ok (.invokestatic 304, 3) := by decide +kernel
theorem dX8_columnFor_12 : decode cX8_columnFor 12 = .ok (.ifCond .ne 5, 3) := by decide +kernel
theorem dX8_columnFor_15 : decode cX8_columnFor 15 = .ok (.iconst (-1), 1) := by decide +kernel
theorem dX8_columnFor_16 : decode cX8_columnFor 16 = .ok (.ireturn, 1) := by decide +kernel
theorem dX8_columnFor_17 : decode cX8_columnFor 17 = .ok (.iconst 0, 1) := by decide +kernel
theorem dX8_columnFor_18 : decode cX8_columnFor 18 = .ok (.istore_n 3, 1) := by decide +kernel
theorem dX8_columnFor_19 : decode cX8_columnFor 19 = .ok (.iload_n 3, 1) := by decide +kernel
theorem dX8_columnFor_20 : decode cX8_columnFor 20 = .ok (.bipush 6, 2) := by decide +kernel
theorem dX8_columnFor_22 : decode cX8_columnFor 22 = .ok (.if_icmp .ge 20, 3) := by decide +kernel
theorem dX8_columnFor_25 : decode cX8_columnFor 25 = .ok (.aload_n 0, 1) := by decide +kernel
theorem dX8_columnFor_26 : decode cX8_columnFor 26 = .ok (.iload_n 1, 1) := by decide +kernel
theorem dX8_columnFor_27 : decode cX8_columnFor 27 = .ok (.iconst 1, 1) := by decide +kernel
theorem dX8_columnFor_28 : decode cX8_columnFor 28 = .ok (.iload_n 3, 1) := by decide +kernel
theorem dX8_columnFor_29 : decode cX8_columnFor 29 = .ok (.iload_n 2, 1) := by decide +kernel
theorem dX8_columnFor_30 : decode cX8_columnFor 30 = .ok (.invokevirtual 301, 3) := by decide +kernel
theorem dX8_columnFor_33 : decode cX8_columnFor 33 = .ok (.ifCond .ne 9, 3) := by decide +kernel
theorem dX8_columnFor_36 : decode cX8_columnFor 36 = .ok (.iinc 3 1, 3) := by decide +kernel
theorem dX8_columnFor_39 : decode cX8_columnFor 39 = .ok (.goto (-20), 3) := by decide +kernel
theorem dX8_columnFor_42 : decode cX8_columnFor 42 = .ok (.iload_n 3, 1) := by decide +kernel
theorem dX8_columnFor_43 : decode cX8_columnFor 43 = .ok (.bipush 6, 2) := by decide +kernel
theorem dX8_columnFor_45 : decode cX8_columnFor 45 = .ok (.if_icmp .ge 7, 3) := by decide +kernel
theorem dX8_columnFor_48 : decode cX8_columnFor 48 = .ok (.iload_n 3, 1) := by decide +kernel
theorem dX8_columnFor_49 : decode cX8_columnFor 49 = .ok (.goto 5, 3) := by decide +kernel
theorem dX8_columnFor_52 : decode cX8_columnFor 52 = .ok (.bipush (-3), 2) := by decide +kernel
theorem dX8_columnFor_54 : decode cX8_columnFor 54 = .ok (.ireturn, 1) := by decide +kernel
theorem dX8_lasts_0 : decode cX8_lasts 0 = .ok (.aload_n 0, 1) := by decide +kernel
theorem dX8_lasts_1 : decode cX8_lasts 1 = .ok (.iload_n 1, 1) := by decide +kernel
theorem dX8_lasts_2 : decode cX8_lasts 2 = .ok (.invokevirtual 234, 3) := by decide +kernel
theorem dX8_lasts_5 : decode cX8_lasts 5 = .ok (.ifCond .ne 5, 3) := by decide +kernel
theorem dX8_lasts_8 : decode cX8_lasts 8 = .ok (.iconst (-1), 1) := by decide +kernel
theorem dX8_lasts_9 : decode cX8_lasts 9 = .ok (.ireturn, 1) := by decide +kernel
theorem dX8_lasts_10 : decode cX8_lasts 10 = .ok (.aload_n 0, 1) := by decide +kernel
theorem dX8_lasts_11 : decode cX8_lasts 11 = .ok (.iload_n 1, 1) := by decide +kernel
theorem dX8_lasts_12 : decode cX8_lasts 12 = .ok (.bipush 6, 2) := by decide +kernel
theorem dX8_lasts_14 : decode cX8_lasts 14 = .ok (.invokevirtual 219, 3) := by decide +kernel
theorem dX8_lasts_17 : decode cX8_lasts 17 = .ok (.istore_n 2, 1) := by decide +kernel
theorem dX8_lasts_18 : decode cX8_lasts 18 = .ok (.aload_n 0, 1) := by decide +kernel
theorem dX8_lasts_19 : decode cX8_lasts 19 = .ok (.iload_n 1, 1) := by decide +kernel
theorem dX8_lasts_20 : decode cX8_lasts 20 = .ok (.bipush 7, 2) := by decide +kernel
theorem dX8_lasts_22 : decode cX8_lasts 22 = .ok (.invokevirtual 219, 3) := by decide +kernel
theorem dX8_lasts_25 : decode cX8_lasts 25 = .ok (.istore_n 3, 1) := by decide +kernel
theorem dX8_lasts_26 : decode cX8_lasts 26 = .ok (.iload_n 2, 1) := by decide +kernel
theorem dX8_lasts_27 : decode cX8_lasts 27 = .ok (.ifCond .ne 5, 3) := by decide +kernel
theorem dX8_lasts_30 : decode cX8_lasts 30 = .ok (.iconst 0, 1) := by decide +kernel
theorem dX8_lasts_31 : decode cX8_lasts 31 = .ok (.ireturn, 1) := by decide +kernel
theorem dX8_lasts_32 : decode cX8_lasts 32 = .ok (.iload_n 3, 1) := by decide +kernel
theorem dX8_lasts_33 : decode cX8_lasts 33 = .ok (.ifCond .ne 8, 3) := by decide +kernel
theorem dX8_lasts_36 : decode cX8_lasts 36 = .ok (.bipush (-3), 2) := by decide +kernel
theorem dX8_lasts_38 : decode cX8_lasts 38 = .ok (.goto 18, 3) := by decide +kernel
theorem dX8_lasts_41 : decode cX8_lasts 41 = .ok (.iload_n 2, 1) := by decide +kernel
theorem dX8_lasts_42 : decode cX8_lasts 42 = .ok (.iload_n 3, 1) := by decide +kernel
theorem dX8_lasts_43 : decode cX8_lasts 43 = .ok (.iadd, 1) := by decide +kernel
theorem dX8_lasts_44 : decode cX8_lasts 44 = .ok (.iconst 1, 1) := by decide +kernel
theorem dX8_lasts_45 : decode cX8_lasts 45 = .ok (.isub, 1) := by decide +kernel
theorem dX8_lasts_46 : decode cX8_lasts 46 = .ok (.iload_n 3, 1) := by decide +kernel
theorem dX8_lasts_47 : decode cX8_lasts 47 = .ok (.ifCond .ne 7, 3) := by decide +kernel
theorem dX8_lasts_50 : decode cX8_lasts 50 = .ok (.iconst 1, 1) := by decide +kernel
theorem dX8_lasts_51 : decode cX8_lasts 51 = .ok (.goto 4, 3) := by decide +kernel
theorem dX8_lasts_54 : decode cX8_lasts 54 = .ok (.iload_n 3, 1) := by decide +kernel
theorem dX8_lasts_55 : decode cX8_lasts 55 = .ok (.idiv, 1) := by decide +kernel
theorem dX8_lasts_56 : decode cX8_lasts 56 = .ok (.ireturn, 1) := by decide +kernel
theorem dX8_pairsBehind_0 : decode cX8_pairsBehind 0 = .ok (.iconst 0, 1) := by decide +kernel
theorem dX8_pairsBehind_1 : decode cX8_pairsBehind 1 = .ok (.istore_n 2, 1) := by decide +kernel
theorem dX8_pairsBehind_2 : decode cX8_pairsBehind 2 = .ok (.iconst 0, 1) := by decide +kernel
theorem dX8_pairsBehind_3 : decode cX8_pairsBehind 3 = .ok (.istore_n 3, 1) := by decide +kernel
theorem dX8_pairsBehind_4 : decode cX8_pairsBehind 4 = .ok (.iload_n 3, 1) := by decide +kernel
theorem dX8_pairsBehind_5 : decode cX8_pairsBehind 5 = .ok (.iload_n 1, 1) := by decide +kernel
theorem dX8_pairsBehind_6 : decode cX8_pairsBehind 6 = .ok (.if_icmp .ge 23, 3) := by decide +kernel
theorem dX8_pairsBehind_9 : decode cX8_pairsBehind 9 = .ok (.aload_n 0, 1) := by decide +kernel
theorem dX8_pairsBehind_10 : decode cX8_pairsBehind 10 = .ok (.invokevirtual 282, 3) := by decide +kernel
theorem dX8_pairsBehind_13 : decode cX8_pairsBehind 13 = .ok (.ifCond .eq 16, 3) := by decide +kernel
theorem dX8_pairsBehind_16 : decode cX8_pairsBehind 16 = .ok (.iload_n 2, 1) := by decide +kernel
theorem dX8_pairsBehind_17 : decode cX8_pairsBehind 17 = .ok (.aload_n 0, 1) := by decide +kernel
theorem dX8_pairsBehind_18 : decode cX8_pairsBehind 18 = .ok (.invokevirtual 307, 3) := by decide +kernel
theorem dX8_pairsBehind_21 : decode cX8_pairsBehind 21 = .ok (.iadd, 1) := by decide +kernel
theorem dX8_pairsBehind_22 : decode cX8_pairsBehind 22 = .ok (.istore_n 2, 1) := by decide +kernel
theorem dX8_pairsBehind_23 : decode cX8_pairsBehind 23 = .ok (.iinc 3 1, 3) := by decide +kernel
theorem dX8_pairsBehind_26 : decode cX8_pairsBehind 26 = .ok (.goto (-22), 3) := by decide +kernel
theorem dX8_pairsBehind_29 : decode cX8_pairsBehind 29 = .ok (.iload_n 2, 1) := by decide +kernel
theorem dX8_pairsBehind_30 : decode cX8_pairsBehind 30 = .ok (.ireturn, 1) := by decide +kernel
theorem dX8_help_0 : decode cX8_help 0 = .ok (.iload_n 1, 1) := by decide +kernel
theorem dX8_help_1 : decode cX8_help 1 = .ok (.iconst 1, 1) := by decide +kernel
theorem dX8_help_2 : decode cX8_help 2 = .ok (.bipush 24, 2) := by decide +kernel
theorem dX8_help_4 : decode cX8_help 4 = .ok (.invokestatic 78, 3) := by decide +kernel
theorem dX8_help_7 : decode cX8_help 7 = .ok (.ifCond .ne 5, 3) := by decide +kernel
theorem dX8_help_10 : decode cX8_help 10 = .ok (.iconst (-1), 1) := by decide +kernel
theorem dX8_help_11 : decode cX8_help 11 = .ok (.ireturn, 1) := by decide +kernel
theorem dX8_help_12 : decode cX8_help 12 = .ok (.bipush (-3), 2) := by decide +kernel
theorem dX8_help_14 : decode cX8_help 14 = .ok (.istore_n 2, 1) := by decide +kernel
theorem dX8_help_15 : decode cX8_help 15 = .ok (.iconst 0, 1) := by decide +kernel
theorem dX8_help_16 : decode cX8_help 16 = .ok (.istore_n 3, 1) := by decide +kernel
theorem dX8_help_17 : decode cX8_help 17 = .ok (.iconst 0, 1) := by decide +kernel
theorem dX8_help_18 : decode cX8_help 18 = .ok (.istore 4, 2) := by decide +kernel
theorem dX8_help_20 : decode cX8_help 20 = .ok (.iload 4, 2) := by decide +kernel
theorem dX8_help_22 : decode cX8_help 22 = .ok (.bipush 36, 2) := by decide +kernel
theorem dX8_help_24 : decode cX8_help 24 = .ok (.if_icmp .ge 137, 3) := by decide +kernel
theorem dX8_help_27 : decode cX8_help 27 = .ok (.iload 4, 2) := by decide +kernel
theorem dX8_help_29 : decode cX8_help 29 = .ok (.bipush 6, 2) := by decide +kernel
theorem dX8_help_31 : decode cX8_help 31 = .ok (.idiv, 1) := by decide +kernel
theorem dX8_help_32 : decode cX8_help 32 = .ok (.istore 5, 2) := by decide +kernel
theorem dX8_help_34 : decode cX8_help 34 = .ok (.iload 4, 2) := by decide +kernel
theorem dX8_help_36 : decode cX8_help 36 = .ok (.bipush 6, 2) := by decide +kernel
theorem dX8_help_38 : decode cX8_help 38 = .ok (.irem, 1) := by decide +kernel
theorem dX8_help_39 : decode cX8_help 39 = .ok (.istore 6, 2) := by decide +kernel
theorem dX8_help_41 : decode cX8_help 41 = .ok (.aload_n 0, 1) := by decide +kernel
theorem dX8_help_42 : decode cX8_help 42 = .ok (.iload 5, 2) := by decide +kernel
theorem dX8_help_44 : decode cX8_help 44 = .ok (.invokevirtual 234, 3) := by decide +kernel
theorem dX8_help_47 : decode cX8_help 47 = .ok (.ifCond .eq 108, 3) := by decide +kernel
theorem dX8_help_50 : decode cX8_help 50 = .ok (.aload_n 0, 1) := by decide +kernel
theorem dX8_help_51 : decode cX8_help 51 = .ok (.iload 6, 2) := by decide +kernel
theorem dX8_help_53 : decode cX8_help 53 = .ok (.invokevirtual 234, 3) := by decide +kernel
theorem dX8_help_56 : decode cX8_help 56 = .ok (.ifCond .eq 99, 3) := by decide +kernel
theorem dX8_help_59 : decode cX8_help 59 = .ok (.iload 5, 2) := by decide +kernel
theorem dX8_help_61 : decode cX8_help 61 = .ok (.iload 6, 2) := by decide +kernel
theorem dX8_help_63 : decode cX8_help 63 = .ok (.if_icmp .eq 92, 3) := by decide +kernel
theorem dX8_help_66 : decode cX8_help 66 = .ok (.aload_n 0, 1) := by decide +kernel
theorem dX8_help_67 : decode cX8_help 67 = .ok (.aload_n 0, 1) := by decide +kernel
theorem dX8_help_68 : decode cX8_help 68 = .ok (.iload 5, 2) := by decide +kernel
theorem dX8_help_70 : decode cX8_help 70 = .ok (.invokevirtual 234, 3) := by decide +kernel
theorem dX8_help_73 : decode cX8_help 73 = .ok (.ifCond .eq 8, 3) := by decide +kernel
theorem dX8_help_76 : decode cX8_help 76 = .ok (.iload 5, 2) := by decide +kernel
theorem dX8_help_78 : decode cX8_help 78 = .ok (.goto 4, 3) := by decide +kernel
theorem dX8_help_81 : decode cX8_help 81 = .ok (.iconst 0, 1) := by decide +kernel
theorem dX8_help_82 : decode cX8_help 82 = .ok (.aload_n 0, 1) := by decide +kernel
theorem dX8_help_83 : decode cX8_help 83 = .ok (.iload 6, 2) := by decide +kernel
theorem dX8_help_85 : decode cX8_help 85 = .ok (.invokevirtual 234, 3) := by decide +kernel
theorem dX8_help_88 : decode cX8_help 88 = .ok (.ifCond .eq 8, 3) := by decide +kernel
theorem dX8_help_91 : decode cX8_help 91 = .ok (.iload 6, 2) := by decide +kernel
theorem dX8_help_93 : decode cX8_help 93 = .ok (.goto 4, 3) := by decide +kernel
theorem dX8_help_96 : decode cX8_help 96 = .ok (.iconst 0, 1) := by decide +kernel
theorem dX8_help_97 : decode cX8_help 97 = .ok (.iconst 5, 1) := by decide +kernel
theorem dX8_help_98 : decode cX8_help 98 = .ok (.bipush 10, 2) := by decide +kernel
theorem dX8_help_100 : decode cX8_help 100 = .ok (.invokevirtual 259, 3) := by decide +kernel
theorem dX8_help_103 : decode cX8_help 103 = .ok (.ifCond .eq 52, 3) := by decide +kernel
theorem dX8_help_106 : decode cX8_help 106 = .ok (.aload_n 0, 1) := by decide +kernel
theorem dX8_help_107 : decode cX8_help 107 = .ok (.invokevirtual 292, 3) := by decide +kernel
theorem dX8_help_110 : decode cX8_help 110 = .ok (.aload_n 0, 1) := by decide +kernel
theorem dX8_help_111 : decode cX8_help 111 = .ok (.iload 5, 2) := by decide +kernel
theorem dX8_help_113 : decode cX8_help 113 = .ok (.iload 6, 2) := by decide +kernel
theorem dX8_help_115 : decode cX8_help 115 = .ok (.iconst 5, 1) := by decide +kernel
theorem dX8_help_116 : decode cX8_help 116 = .ok (.bipush 10, 2) := by decide +kernel
theorem dX8_help_118 : decode cX8_help 118 = .ok (.invokevirtual 263, 3) := by decide +kernel
theorem dX8_help_121 : decode cX8_help 121 = .ok (.aload_n 0, 1) := by decide +kernel
theorem dX8_help_122 : decode cX8_help 122 = .ok (.iload_n 1, 1) := by decide +kernel
theorem dX8_help_123 : decode cX8_help 123 = .ok (.invokevirtual 310, 3) := by decide +kernel
theorem dX8_help_126 : decode cX8_help 126 = .ok (.istore 7, 2) := by decide +kernel
theorem dX8_help_128 : decode cX8_help 128 = .ok (.aload_n 0, 1) := by decide +kernel
theorem dX8_help_129 : decode cX8_help 129 = .ok (.iconst 0, 1) := by decide +kernel
theorem dX8_help_130 : decode cX8_help 130 = .ok (.putfield 85, 3) := by decide +kernel
theorem dX8_help_133 : decode cX8_help 133 = .ok (.iload_n 2, 1) := by decide +kernel
theorem dX8_help_134 : decode cX8_help 134 = .ok (.ifCond .lt 9, 3) := by decide +kernel
theorem dX8_help_137 : decode cX8_help 137 = .ok (.iload 7, 2) := by decide +kernel
theorem dX8_help_139 : decode cX8_help 139 = .ok (.iload_n 3, 1) := by decide +kernel
theorem dX8_help_140 : decode cX8_help 140 = .ok (.if_icmp .ge 15, 3) := by decide +kernel
theorem dX8_help_143 : decode cX8_help 143 = .ok (.bipush 10, 2) := by decide +kernel
theorem dX8_help_145 : decode cX8_help 145 = .ok (.iload 5, 2) := by decide +kernel
theorem dX8_help_147 : decode cX8_help 147 = .ok (.imul, 1) := by decide +kernel
theorem dX8_help_148 : decode cX8_help 148 = .ok (.iload 6, 2) := by decide +kernel
theorem dX8_help_150 : decode cX8_help 150 = .ok (.iadd, 1) := by decide +kernel
theorem dX8_help_151 : decode cX8_help 151 = .ok (.istore_n 2, 1) := by decide +kernel
theorem dX8_help_152 : decode cX8_help 152 = .ok (.iload 7, 2) := by decide +kernel
theorem dX8_help_154 : decode cX8_help 154 = .ok (.istore_n 3, 1) := by decide +kernel
theorem dX8_help_155 : decode cX8_help 155 = .ok (.iinc 4 1, 3) := by decide +kernel
theorem dX8_help_158 : decode cX8_help 158 = .ok (.goto (-138), 3) := by decide +kernel
theorem dX8_help_161 : decode cX8_help 161 = .ok (.iload_n 2, 1) := by decide +kernel
theorem dX8_help_162 : decode cX8_help 162 = .ok (.ireturn, 1) := by decide +kernel
theorem dX8_cold_0 : decode cX8_cold 0 = .ok (.bipush 40, 2) := by decide +kernel
theorem dX8_cold_2 : decode cX8_cold 2 = .ok (.istore_n 1, 1) := by decide +kernel
theorem dX8_cold_3 : decode cX8_cold 3 = .ok (.iconst 0, 1) := by decide +kernel
theorem dX8_cold_4 : decode cX8_cold 4 = .ok (.istore_n 2, 1) := by decide +kernel
theorem dX8_cold_5 : decode cX8_cold 5 = .ok (.iload_n 1, 1) := by decide +kernel
theorem dX8_cold_6 : decode cX8_cold 6 = .ok (.ifCond .le 51, 3) := by decide +kernel
theorem dX8_cold_9 : decode cX8_cold 9 = .ok (.iload_n 2, 1) := by decide +kernel
theorem dX8_cold_10 : decode cX8_cold 10 = .ok (.ifCond .ne 47, 3) := by decide +kernel
theorem dX8_cold_13 : decode cX8_cold 13 = .ok (.aload_n 0, 1) := by decide +kernel
theorem dX8_cold_14 : decode cX8_cold 14 = .ok (.iload_n 1, 1) := by decide +kernel
theorem dX8_cold_15 : decode cX8_cold 15 = .ok (.putfield 225, 3) := by decide +kernel
theorem dX8_cold_18 : decode cX8_cold 18 = .ok (.aload_n 0, 1) := by decide +kernel
theorem dX8_cold_19 : decode cX8_cold 19 = .ok (.invokevirtual 292, 3) := by decide +kernel
theorem dX8_cold_22 : decode cX8_cold 22 = .ok (.aload_n 0, 1) := by decide +kernel
theorem dX8_cold_23 : decode cX8_cold 23 = .ok (.bipush 24, 2) := by decide +kernel
theorem dX8_cold_25 : decode cX8_cold 25 = .ok (.invokevirtual 310, 3) := by decide +kernel
theorem dX8_cold_28 : decode cX8_cold 28 = .ok (.ifCond .ne 7, 3) := by decide +kernel
theorem dX8_cold_31 : decode cX8_cold 31 = .ok (.iconst 1, 1) := by decide +kernel
theorem dX8_cold_32 : decode cX8_cold 32 = .ok (.goto 4, 3) := by decide +kernel
theorem dX8_cold_35 : decode cX8_cold 35 = .ok (.iconst 0, 1) := by decide +kernel
theorem dX8_cold_36 : decode cX8_cold 36 = .ok (.istore_n 2, 1) := by decide +kernel
theorem dX8_cold_37 : decode cX8_cold 37 = .ok (.aload_n 0, 1) := by decide +kernel
theorem dX8_cold_38 : decode cX8_cold 38 = .ok (.iconst 0, 1) := by decide +kernel
theorem dX8_cold_39 : decode cX8_cold 39 = .ok (.putfield 85, 3) := by decide +kernel
theorem dX8_cold_42 : decode cX8_cold 42 = .ok (.iload_n 2, 1) := by decide +kernel
theorem dX8_cold_43 : decode cX8_cold 43 = .ok (.ifCond .eq 7, 3) := by decide +kernel
theorem dX8_cold_46 : decode cX8_cold 46 = .ok (.iload_n 1, 1) := by decide +kernel
theorem dX8_cold_47 : decode cX8_cold 47 = .ok (.goto 6, 3) := by decide +kernel
theorem dX8_cold_50 : decode cX8_cold 50 = .ok (.iload_n 1, 1) := by decide +kernel
theorem dX8_cold_51 : decode cX8_cold 51 = .ok (.iconst 1, 1) := by decide +kernel
theorem dX8_cold_52 : decode cX8_cold 52 = .ok (.isub, 1) := by decide +kernel
theorem dX8_cold_53 : decode cX8_cold 53 = .ok (.istore_n 1, 1) := by decide +kernel
theorem dX8_cold_54 : decode cX8_cold 54 = .ok (.goto (-49), 3) := by decide +kernel
theorem dX8_cold_57 : decode cX8_cold 57 = .ok (.aload_n 0, 1) := by decide +kernel
theorem dX8_cold_58 : decode cX8_cold 58 = .ok (.iconst 0, 1) := by decide +kernel
theorem dX8_cold_59 : decode cX8_cold 59 = .ok (.putfield 225, 3) := by decide +kernel
theorem dX8_cold_62 : decode cX8_cold 62 = .ok (.iload_n 2, 1) := by decide +kernel
theorem dX8_cold_63 : decode cX8_cold 63 = .ok (.ifCond .eq 7, 3) := by decide +kernel
theorem dX8_cold_66 : decode cX8_cold 66 = .ok (.iload_n 1, 1) := by decide +kernel
theorem dX8_cold_67 : decode cX8_cold 67 = .ok (.goto 5, 3) := by decide +kernel
theorem dX8_cold_70 : decode cX8_cold 70 = .ok (.bipush (-3), 2) := by decide +kernel
theorem dX8_cold_72 : decode cX8_cold 72 = .ok (.ireturn, 1) := by decide +kernel
theorem dX8_highest_0 : decode cX8_highest 0 = .ok (.iload_n 1, 1) := by decide +kernel
theorem dX8_highest_1 : decode cX8_highest 1 = .ok (.invokestatic 286, 3) := by decide +kernel
theorem dX8_highest_4 : decode cX8_highest 4 = .ok (.ifCond .ne 5, 3) := by decide +kernel
theorem dX8_highest_7 : decode cX8_highest 7 = .ok (.iconst (-1), 1) := by decide +kernel
theorem dX8_highest_8 : decode cX8_highest 8 = .ok (.ireturn, 1) := by decide +kernel
theorem dX8_highest_9 : decode cX8_highest 9 = .ok (.aload_n 0, 1) := by decide +kernel
theorem dX8_highest_10 : decode cX8_highest 10 = .ok (.invokevirtual 292, 3) := by decide +kernel
theorem dX8_highest_13 : decode cX8_highest 13 = .ok (.aload_n 0, 1) := by decide +kernel
theorem dX8_highest_14 : decode cX8_highest 14 = .ok (.iload_n 1, 1) := by decide +kernel
theorem dX8_highest_15 : decode cX8_highest 15 = .ok (.invokevirtual 289, 3) := by decide +kernel
theorem dX8_highest_18 : decode cX8_highest 18 = .ok (.bipush (-3), 2) := by decide +kernel
theorem dX8_highest_20 : decode cX8_highest 20 = .ok (.istore_n 2, 1) := by decide +kernel
theorem dX8_highest_21 : decode cX8_highest 21 = .ok (.iconst 0, 1) := by decide +kernel
theorem dX8_highest_22 : decode cX8_highest 22 = .ok (.istore_n 3, 1) := by decide +kernel
theorem dX8_highest_23 : decode cX8_highest 23 = .ok (.iload_n 3, 1) := by decide +kernel
theorem dX8_highest_24 : decode cX8_highest 24 = .ok (.aload_n 0, 1) := by decide +kernel
theorem dX8_highest_25 : decode cX8_highest 25 = .ok (.getfield 82, 3) := by decide +kernel
theorem dX8_highest_28 : decode cX8_highest 28 = .ok (.if_icmp .ge 34, 3) := by decide +kernel
theorem dX8_highest_31 : decode cX8_highest 31 = .ok (.iload_n 2, 1) := by decide +kernel
theorem dX8_highest_32 : decode cX8_highest 32 = .ok (.ifCond .lt 18, 3) := by decide +kernel
theorem dX8_highest_35 : decode cX8_highest 35 = .ok (.aload_n 0, 1) := by decide +kernel
theorem dX8_highest_36 : decode cX8_highest 36 = .ok (.iload_n 3, 1) := by decide +kernel
theorem dX8_highest_37 : decode cX8_highest 37 = .ok (.iconst 2, 1) := by decide +kernel
theorem dX8_highest_38 : decode cX8_highest 38 = .ok (.invokevirtual 219, 3) := by decide +kernel
theorem dX8_highest_41 : decode cX8_highest 41 = .ok (.aload_n 0, 1) := by decide +kernel
theorem dX8_highest_42 : decode cX8_highest 42 = .ok (.iload_n 2, 1) := by decide +kernel
theorem dX8_highest_43 : decode cX8_highest 43 = .ok (.iconst 2, 1) := by decide +kernel
theorem dX8_highest_44 : decode cX8_highest 44 = .ok (.invokevirtual 219, 3) := by decide +kernel
theorem dX8_highest_47 : decode cX8_highest 47 = .ok (.if_icmp .le 7, 3) := by decide +kernel
theorem dX8_highest_50 : decode cX8_highest 50 = .ok (.iload_n 3, 1) := by decide +kernel
theorem dX8_highest_51 : decode cX8_highest 51 = .ok (.goto 4, 3) := by decide +kernel
theorem dX8_highest_54 : decode cX8_highest 54 = .ok (.iload_n 2, 1) := by decide +kernel
theorem dX8_highest_55 : decode cX8_highest 55 = .ok (.istore_n 2, 1) := by decide +kernel
theorem dX8_highest_56 : decode cX8_highest 56 = .ok (.iinc 3 1, 3) := by decide +kernel
theorem dX8_highest_59 : decode cX8_highest 59 = .ok (.goto (-36), 3) := by decide +kernel
theorem dX8_highest_62 : decode cX8_highest 62 = .ok (.aload_n 0, 1) := by decide +kernel
theorem dX8_highest_63 : decode cX8_highest 63 = .ok (.iconst 0, 1) := by decide +kernel
theorem dX8_highest_64 : decode cX8_highest 64 = .ok (.putfield 85, 3) := by decide +kernel
theorem dX8_highest_67 : decode cX8_highest 67 = .ok (.iload_n 2, 1) := by decide +kernel
theorem dX8_highest_68 : decode cX8_highest 68 = .ok (.ireturn, 1) := by decide +kernel
theorem dX8_seed_0 : decode cX8_seed 0 = .ok (.aload_n 0, 1) := by decide +kernel
theorem dX8_seed_1 : decode cX8_seed 1 = .ok (.getfield 26, 3) := by decide +kernel
theorem dX8_seed_4 : decode cX8_seed 4 = .ok (.istore_n 2, 1) := by decide +kernel
theorem dX8_seed_5 : decode cX8_seed 5 = .ok (.aload_n 0, 1) := by decide +kernel
theorem dX8_seed_6 : decode cX8_seed 6 = .ok (.iload_n 1, 1) := by decide +kernel
theorem dX8_seed_7 : decode cX8_seed 7 = .ok (.putfield 26, 3) := by decide +kernel
theorem dX8_seed_10 : decode cX8_seed 10 = .ok (.iload_n 2, 1) := by decide +kernel
theorem dX8_seed_11 : decode cX8_seed 11 = .ok (.ireturn, 1) := by decide +kernel
theorem dX8_draw_0 : decode cX8_draw 0 = .ok (.iload_n 1, 1) := by decide +kernel
theorem dX8_draw_1 : decode cX8_draw 1 = .ok (.invokestatic 205, 3) := by decide +kernel
theorem dX8_draw_4 : decode cX8_draw 4 = .ok (.ifCond .ne 5, 3) := by decide +kernel
theorem dX8_draw_7 : decode cX8_draw 7 = .ok (.iconst (-1), 1) := by decide +kernel
theorem dX8_draw_8 : decode cX8_draw 8 = .ok (.ireturn, 1) := by decide +kernel
theorem dX8_draw_9 : decode cX8_draw 9 = .ok (.aload_n 0, 1) := by decide +kernel
theorem dX8_draw_10 : decode cX8_draw 10 = .ok (.aload_n 0, 1) := by decide +kernel
theorem dX8_draw_11 : decode cX8_draw 11 = .ok (.getfield 26, 3) := by decide +kernel
theorem dX8_draw_14 : decode cX8_draw 14 = .ok (.ldc_w 313, 3) := by decide +kernel
theorem dX8_draw_17 : decode cX8_draw 17 = .ok (.imul, 1) := by decide +kernel
theorem dX8_draw_18 : decode cX8_draw 18 = .ok (.sipush 12345, 3) := by decide +kernel
theorem dX8_draw_21 : decode cX8_draw 21 = .ok (.iadd, 1) := by decide +kernel
theorem dX8_draw_22 : decode cX8_draw 22 = .ok (.putfield 26, 3) := by decide +kernel
theorem dX8_draw_25 : decode cX8_draw 25 = .ok (.aload_n 0, 1) := by decide +kernel
theorem dX8_draw_26 : decode cX8_draw 26 = .ok (.getfield 7, 3) := by decide +kernel
theorem dX8_draw_29 : decode cX8_draw 29 = .ok (.iload_n 1, 1) := by decide +kernel
theorem dX8_draw_30 : decode cX8_draw 30 = .ok (.aload_n 0, 1) := by decide +kernel
theorem dX8_draw_31 : decode cX8_draw 31 = .ok (.getfield 26, 3) := by decide +kernel
theorem dX8_draw_34 : decode cX8_draw 34 = .ok (.bipush 16, 2) := by decide +kernel
theorem dX8_draw_36 : decode cX8_draw 36 = .ok (.iushr, 1) := by decide +kernel
theorem dX8_draw_37 : decode cX8_draw 37 = .ok (.bipush 61, 2) := by decide +kernel
theorem dX8_draw_39 : decode cX8_draw 39 = .ok (.irem, 1) := by decide +kernel
theorem dX8_draw_40 : decode cX8_draw 40 = .ok (.bipush 20, 2) := by decide +kernel
theorem dX8_draw_42 : decode cX8_draw 42 = .ok (.isub, 1) := by decide +kernel
theorem dX8_draw_43 : decode cX8_draw 43 = .ok (.iastore, 1) := by decide +kernel
theorem dX8_draw_44 : decode cX8_draw 44 = .ok (.bipush 100, 2) := by decide +kernel
theorem dX8_draw_46 : decode cX8_draw 46 = .ok (.aload_n 0, 1) := by decide +kernel
theorem dX8_draw_47 : decode cX8_draw 47 = .ok (.getfield 7, 3) := by decide +kernel
theorem dX8_draw_50 : decode cX8_draw 50 = .ok (.iload_n 1, 1) := by decide +kernel
theorem dX8_draw_51 : decode cX8_draw 51 = .ok (.iaload, 1) := by decide +kernel
theorem dX8_draw_52 : decode cX8_draw 52 = .ok (.iadd, 1) := by decide +kernel
theorem dX8_draw_53 : decode cX8_draw 53 = .ok (.ireturn, 1) := by decide +kernel
theorem dX8_findRows_0 : decode cX8_findRows 0 = .ok (.aload_n 0, 1) := by decide +kernel
theorem dX8_findRows_1 : decode cX8_findRows 1 = .ok (.invokevirtual 292, 3) := by decide +kernel
theorem dX8_findRows_4 : decode cX8_findRows 4 = .ok (.aload_n 0, 1) := by decide +kernel
theorem dX8_findRows_5 : decode cX8_findRows 5 = .ok (.iconst 0, 1) := by decide +kernel
theorem dX8_findRows_6 : decode cX8_findRows 6 = .ok (.putfield 314, 3) := by decide +kernel
theorem dX8_findRows_9 : decode cX8_findRows 9 = .ok (.aload_n 0, 1) := by decide +kernel
theorem dX8_findRows_10 : decode cX8_findRows 10 = .ok (.getfield 314, 3) := by decide +kernel
theorem dX8_findRows_13 : decode cX8_findRows 13 = .ok (.iload_n 2, 1) := by decide +kernel
theorem dX8_findRows_14 : decode cX8_findRows 14 = .ok (.if_icmp .ge 80, 3) := by decide +kernel
theorem dX8_findRows_17 : decode cX8_findRows 17 = .ok (.aload_n 0, 1) := by decide +kernel
theorem dX8_findRows_18 : decode cX8_findRows 18 = .ok (.invokevirtual 282, 3) := by decide +kernel
theorem dX8_findRows_21 : decode cX8_findRows 21 = .ok (.ifCond .eq 73, 3) := by decide +kernel
theorem dX8_findRows_24 : decode cX8_findRows 24 = .ok (.aload_n 0, 1) := by decide +kernel
theorem dX8_findRows_25 : decode cX8_findRows 25 = .ok (.getfield 47, 3) := by decide +kernel
theorem dX8_findRows_28 : decode cX8_findRows 28 = .ok (.iconst 3, 1) := by decide +kernel
theorem dX8_findRows_29 : decode cX8_findRows 29 = .ok (.aload_n 0, 1) := by decide +kernel
theorem dX8_findRows_30 : decode cX8_findRows 30 = .ok (.getfield 314, 3) := by decide +kernel
theorem dX8_findRows_33 : decode cX8_findRows 33 = .ok (.imul, 1) := by decide +kernel
theorem dX8_findRows_34 : decode cX8_findRows 34 = .ok (.aload_n 0, 1) := by decide +kernel
theorem dX8_findRows_35 : decode cX8_findRows 35 = .ok (.iload_n 1, 1) := by decide +kernel
theorem dX8_findRows_36 : decode cX8_findRows 36 = .ok (.iconst 2, 1) := by decide +kernel
theorem dX8_findRows_37 : decode cX8_findRows 37 = .ok (.invokevirtual 219, 3) := by decide +kernel
theorem dX8_findRows_40 : decode cX8_findRows 40 = .ok (.iastore, 1) := by decide +kernel
theorem dX8_findRows_41 : decode cX8_findRows 41 = .ok (.aload_n 0, 1) := by decide +kernel
theorem dX8_findRows_42 : decode cX8_findRows 42 = .ok (.getfield 47, 3) := by decide +kernel
theorem dX8_findRows_45 : decode cX8_findRows 45 = .ok (.iconst 3, 1) := by decide +kernel
theorem dX8_findRows_46 : decode cX8_findRows 46 = .ok (.aload_n 0, 1) := by decide +kernel
theorem dX8_findRows_47 : decode cX8_findRows 47 = .ok (.getfield 314, 3) := by decide +kernel
theorem dX8_findRows_50 : decode cX8_findRows 50 = .ok (.imul, 1) := by decide +kernel
theorem dX8_findRows_51 : decode cX8_findRows 51 = .ok (.iconst 1, 1) := by decide +kernel
theorem dX8_findRows_52 : decode cX8_findRows 52 = .ok (.iadd, 1) := by decide +kernel
theorem dX8_findRows_53 : decode cX8_findRows 53 = .ok (.aload_n 0, 1) := by decide +kernel
theorem dX8_findRows_54 : decode cX8_findRows 54 = .ok (.iload_n 1, 1) := by decide +kernel
theorem dX8_findRows_55 : decode cX8_findRows 55 = .ok (.iconst 4, 1) := by decide +kernel
theorem dX8_findRows_56 : decode cX8_findRows 56 = .ok (.invokevirtual 219, 3) := by decide +kernel
theorem dX8_findRows_59 : decode cX8_findRows 59 = .ok (.iastore, 1) := by decide +kernel
theorem dX8_findRows_60 : decode cX8_findRows 60 = .ok (.aload_n 0, 1) := by decide +kernel
theorem dX8_findRows_61 : decode cX8_findRows 61 = .ok (.getfield 47, 3) := by decide +kernel
theorem dX8_findRows_64 : decode cX8_findRows 64 = .ok (.iconst 3, 1) := by decide +kernel
theorem dX8_findRows_65 : decode cX8_findRows 65 = .ok (.aload_n 0, 1) := by decide +kernel
theorem dX8_findRows_66 : decode cX8_findRows 66 = .ok (.getfield 314, 3) := by decide +kernel
theorem dX8_findRows_69 : decode cX8_findRows 69 = .ok (.imul, 1) := by decide +kernel
theorem dX8_findRows_70 : decode cX8_findRows 70 = .ok (.iconst 2, 1) := by decide +kernel
theorem dX8_findRows_71 : decode cX8_findRows 71 = .ok (.iadd, 1) := by decide +kernel
theorem dX8_findRows_72 : decode cX8_findRows 72 = .ok (.aload_n 0, 1) := by decide +kernel
theorem dX8_findRows_73 : decode cX8_findRows 73 = .ok (.iload_n 1, 1) := by decide +kernel
theorem dX8_findRows_74 : decode cX8_findRows 74 = .ok (.invokevirtual 270, 3) := by decide +kernel
theorem dX8_findRows_77 : decode cX8_findRows 77 = .ok (.invokestatic 273, 3) := by decide +kernel
theorem dX8_findRows_80 : decode cX8_findRows 80 = .ok (.iastore, 1) := by decide +kernel
theorem dX8_findRows_81 : decode cX8_findRows 81 = .ok (.aload_n 0, 1) := by decide +kernel
theorem dX8_findRows_82 : decode cX8_findRows 82 = .ok (.dup, 1) := by decide +kernel
theorem dX8_findRows_83 : decode cX8_findRows 83 = .ok (.getfield 314, 3) := by decide +kernel
theorem dX8_findRows_86 : decode cX8_findRows 86 = .ok (.iconst 1, 1) := by decide +kernel
theorem dX8_findRows_87 : decode cX8_findRows 87 = .ok (.iadd, 1) := by decide +kernel
theorem dX8_findRows_88 : decode cX8_findRows 88 = .ok (.putfield 314, 3) := by decide +kernel
theorem dX8_findRows_91 : decode cX8_findRows 91 = .ok (.goto (-82), 3) := by decide +kernel
theorem dX8_findRows_94 : decode cX8_findRows 94 = .ok (.aload_n 0, 1) := by decide +kernel
theorem dX8_findRows_95 : decode cX8_findRows 95 = .ok (.iconst 0, 1) := by decide +kernel
theorem dX8_findRows_96 : decode cX8_findRows 96 = .ok (.putfield 85, 3) := by decide +kernel
theorem dX8_findRows_99 : decode cX8_findRows 99 = .ok (.return_, 1) := by decide +kernel
theorem dX8_prove_0 : decode cX8_prove 0 = .ok (.aload_n 0, 1) := by decide +kernel
theorem dX8_prove_1 : decode cX8_prove 1 = .ok (.iload_n 1, 1) := by decide +kernel
theorem dX8_prove_2 : decode cX8_prove 2 = .ok (.invokevirtual 234, 3) := by decide +kernel
theorem dX8_prove_5 : decode cX8_prove 5 = .ok (.ifCond .eq 13, 3) := by decide +kernel
theorem dX8_prove_8 : decode cX8_prove 8 = .ok (.iload_n 2, 1) := by decide +kernel
theorem dX8_prove_9 : decode cX8_prove 9 = .ok (.iconst 1, 1) := by decide +kernel
theorem dX8_prove_10 : decode cX8_prove 10 = .ok (.bipush 20, 2) := by decide +kernel
theorem dX8_prove_12 : decode cX8_prove 12 = .ok (.invokestatic 78, 3) := by decide +kernel
theorem dX8_prove_15 : decode cX8_prove 15 = .ok (.ifCond .ne 5, 3) := by decide +kernel
theorem dX8_prove_18 : decode cX8_prove 18 = .ok (.iconst (-1), 1) := by decide +kernel
theorem dX8_prove_19 : decode cX8_prove 19 = .ok (.ireturn, 1) := by decide +kernel
theorem dX8_prove_20 : decode cX8_prove 20 = .ok (.aload_n 0, 1) := by decide +kernel
theorem dX8_prove_21 : decode cX8_prove 21 = .ok (.iload_n 1, 1) := by decide +kernel
theorem dX8_prove_22 : decode cX8_prove 22 = .ok (.iload_n 2, 1) := by decide +kernel
theorem dX8_prove_23 : decode cX8_prove 23 = .ok (.invokevirtual 317, 3) := by decide +kernel
theorem dX8_prove_26 : decode cX8_prove 26 = .ok (.aload_n 0, 1) := by decide +kernel
theorem dX8_prove_27 : decode cX8_prove 27 = .ok (.aload_n 0, 1) := by decide +kernel
theorem dX8_prove_28 : decode cX8_prove 28 = .ok (.getfield 314, 3) := by decide +kernel
theorem dX8_prove_31 : decode cX8_prove 31 = .ok (.putfield 202, 3) := by decide +kernel
theorem dX8_prove_34 : decode cX8_prove 34 = .ok (.iconst 0, 1) := by decide +kernel
theorem dX8_prove_35 : decode cX8_prove 35 = .ok (.istore_n 3, 1) := by decide +kernel
theorem dX8_prove_36 : decode cX8_prove 36 = .ok (.iload_n 3, 1) := by decide +kernel
theorem dX8_prove_37 : decode cX8_prove 37 = .ok (.iconst 3, 1) := by decide +kernel
theorem dX8_prove_38 : decode cX8_prove 38 = .ok (.aload_n 0, 1) := by decide +kernel
theorem dX8_prove_39 : decode cX8_prove 39 = .ok (.getfield 202, 3) := by decide +kernel
theorem dX8_prove_42 : decode cX8_prove 42 = .ok (.imul, 1) := by decide +kernel
theorem dX8_prove_43 : decode cX8_prove 43 = .ok (.if_icmp .ge 21, 3) := by decide +kernel
theorem dX8_prove_46 : decode cX8_prove 46 = .ok (.aload_n 0, 1) := by decide +kernel
theorem dX8_prove_47 : decode cX8_prove 47 = .ok (.getfield 44, 3) := by decide +kernel
theorem dX8_prove_50 : decode cX8_prove 50 = .ok (.iload_n 3, 1) := by decide +kernel
theorem dX8_prove_51 : decode cX8_prove 51 = .ok (.aload_n 0, 1) := by decide +kernel
theorem dX8_prove_52 : decode cX8_prove 52 = .ok (.getfield 47, 3) := by decide +kernel
theorem dX8_prove_55 : decode cX8_prove 55 = .ok (.iload_n 3, 1) := by decide +kernel
theorem dX8_prove_56 : decode cX8_prove 56 = .ok (.iaload, 1) := by decide +kernel
theorem dX8_prove_57 : decode cX8_prove 57 = .ok (.iastore, 1) := by decide +kernel
theorem dX8_prove_58 : decode cX8_prove 58 = .ok (.iinc 3 1, 3) := by decide +kernel
theorem dX8_prove_61 : decode cX8_prove 61 = .ok (.goto (-25), 3) := by decide +kernel
theorem dX8_prove_64 : decode cX8_prove 64 = .ok (.aload_n 0, 1) := by decide +kernel
theorem dX8_prove_65 : decode cX8_prove 65 = .ok (.getfield 202, 3) := by decide +kernel
theorem dX8_prove_68 : decode cX8_prove 68 = .ok (.ireturn, 1) := by decide +kernel
theorem dX8_isRow_0 : decode cX8_isRow 0 = .ok (.iload_n 1, 1) := by decide +kernel
theorem dX8_isRow_1 : decode cX8_isRow 1 = .ok (.iconst 0, 1) := by decide +kernel
theorem dX8_isRow_2 : decode cX8_isRow 2 = .ok (.aload_n 0, 1) := by decide +kernel
theorem dX8_isRow_3 : decode cX8_isRow 3 = .ok (.getfield 202, 3) := by decide +kernel
theorem dX8_isRow_6 : decode cX8_isRow 6 = .ok (.iconst 1, 1) := by decide +kernel
theorem dX8_isRow_7 : decode cX8_isRow 7 = .ok (.isub, 1) := by decide +kernel
theorem dX8_isRow_8 : decode cX8_isRow 8 = .ok (.invokestatic 78, 3) := by decide +kernel
theorem dX8_isRow_11 : decode cX8_isRow 11 = .ok (.ifCond .eq 16, 3) := by decide +kernel
theorem dX8_isRow_14 : decode cX8_isRow 14 = .ok (.iload_n 2, 1) := by decide +kernel
theorem dX8_isRow_15 : decode cX8_isRow 15 = .ok (.iconst 0, 1) := by decide +kernel
theorem dX8_isRow_16 : decode cX8_isRow 16 = .ok (.iconst 2, 1) := by decide +kernel
theorem dX8_isRow_17 : decode cX8_isRow 17 = .ok (.invokestatic 78, 3) := by decide +kernel
theorem dX8_isRow_20 : decode cX8_isRow 20 = .ok (.ifCond .eq 7, 3) := by decide +kernel
theorem dX8_isRow_23 : decode cX8_isRow 23 = .ok (.iconst 1, 1) := by decide +kernel
theorem dX8_isRow_24 : decode cX8_isRow 24 = .ok (.goto 4, 3) := by decide +kernel
theorem dX8_isRow_27 : decode cX8_isRow 27 = .ok (.iconst 0, 1) := by decide +kernel
theorem dX8_isRow_28 : decode cX8_isRow 28 = .ok (.ireturn, 1) := by decide +kernel
theorem dX8_row_0 : decode cX8_row 0 = .ok (.aload_n 0, 1) := by decide +kernel
theorem dX8_row_1 : decode cX8_row 1 = .ok (.iload_n 1, 1) := by decide +kernel
theorem dX8_row_2 : decode cX8_row 2 = .ok (.iload_n 2, 1) := by decide +kernel
theorem dX8_row_3 : decode cX8_row 3 = .ok (.invokevirtual 321, 3) := by decide +kernel
theorem dX8_row_6 : decode cX8_row 6 = .ok (.ifCond .eq 16, 3) := by decide +kernel
theorem dX8_row_9 : decode cX8_row 9 = .ok (.aload_n 0, 1) := by decide +kernel
theorem dX8_row_10 : decode cX8_row 10 = .ok (.getfield 44, 3) := by decide +kernel
theorem dX8_row_13 : decode cX8_row 13 = .ok (.iconst 3, 1) := by decide +kernel
theorem dX8_row_14 : decode cX8_row 14 = .ok (.iload_n 1, 1) := by decide +kernel
theorem dX8_row_15 : decode cX8_row 15 = .ok (.imul, 1) := by decide +kernel
theorem dX8_row_16 : decode cX8_row 16 = .ok (.iload_n 2, 1) := by decide +kernel
theorem dX8_row_17 : decode cX8_row 17 = .ok (.iadd, 1) := by decide +kernel
theorem dX8_row_18 : decode cX8_row 18 = .ok (.iaload, 1) := by decide +kernel
theorem dX8_row_19 : decode cX8_row 19 = .ok (.goto 5, 3) := by decide +kernel
theorem dX8_row_22 : decode cX8_row 22 = .ok (.bipush (-9), 2) := by decide +kernel
theorem dX8_row_24 : decode cX8_row 24 = .ok (.ireturn, 1) := by decide +kernel
theorem dX8_alterRow_0 : decode cX8_alterRow 0 = .ok (.aload_n 0, 1) := by decide +kernel
theorem dX8_alterRow_1 : decode cX8_alterRow 1 = .ok (.iload_n 1, 1) := by decide +kernel
theorem dX8_alterRow_2 : decode cX8_alterRow 2 = .ok (.iload_n 2, 1) := by decide +kernel
theorem dX8_alterRow_3 : decode cX8_alterRow 3 = .ok (.invokevirtual 321, 3) := by decide +kernel
theorem dX8_alterRow_6 : decode cX8_alterRow 6 = .ok (.ifCond .ne 6, 3) := by decide +kernel
theorem dX8_alterRow_9 : decode cX8_alterRow 9 = .ok (.bipush (-9), 2) := by decide +kernel
theorem dX8_alterRow_11 : decode cX8_alterRow 11 = .ok (.ireturn, 1) := by decide +kernel
theorem dX8_alterRow_12 : decode cX8_alterRow 12 = .ok (.aload_n 0, 1) := by decide +kernel
theorem dX8_alterRow_13 : decode cX8_alterRow 13 = .ok (.getfield 44, 3) := by decide +kernel
theorem dX8_alterRow_16 : decode cX8_alterRow 16 = .ok (.iconst 3, 1) := by decide +kernel
theorem dX8_alterRow_17 : decode cX8_alterRow 17 = .ok (.iload_n 1, 1) := by decide +kernel
theorem dX8_alterRow_18 : decode cX8_alterRow 18 = .ok (.imul, 1) := by decide +kernel
theorem dX8_alterRow_19 : decode cX8_alterRow 19 = .ok (.iload_n 2, 1) := by decide +kernel
theorem dX8_alterRow_20 : decode cX8_alterRow 20 = .ok (.iadd, 1) := by decide +kernel
theorem dX8_alterRow_21 : decode cX8_alterRow 21 = .ok (.iaload, 1) := by decide +kernel
theorem dX8_alterRow_22 : decode cX8_alterRow 22 = .ok (.istore 4, 2) := by decide +kernel
theorem dX8_alterRow_24 : decode cX8_alterRow 24 = .ok (.aload_n 0, 1) := by decide +kernel
theorem dX8_alterRow_25 : decode cX8_alterRow 25 = .ok (.getfield 44, 3) := by decide +kernel
theorem dX8_alterRow_28 : decode cX8_alterRow 28 = .ok (.iconst 3, 1) := by decide +kernel
theorem dX8_alterRow_29 : decode cX8_alterRow 29 = .ok (.iload_n 1, 1) := by decide +kernel
theorem dX8_alterRow_30 : decode cX8_alterRow 30 = .ok (.imul, 1) := by decide +kernel
theorem dX8_alterRow_31 : decode cX8_alterRow 31 = .ok (.iload_n 2, 1) := by decide +kernel
theorem dX8_alterRow_32 : decode cX8_alterRow 32 = .ok (.iadd, 1) := by decide +kernel
theorem dX8_alterRow_33 : decode cX8_alterRow 33 = .ok (.iload_n 3, 1) := by decide +kernel
theorem dX8_alterRow_34 : decode cX8_alterRow 34 = .ok (.iastore, 1) := by decide +kernel
theorem dX8_alterRow_35 : decode cX8_alterRow 35 = .ok (.iload 4, 2) := by decide +kernel
theorem dX8_alterRow_37 : decode cX8_alterRow 37 = .ok (.ireturn, 1) := by decide +kernel
theorem dX8_judge_0 : decode cX8_judge 0 = .ok (.aload_n 0, 1) := by decide +kernel
theorem dX8_judge_1 : decode cX8_judge 1 = .ok (.iload_n 1, 1) := by decide +kernel
theorem dX8_judge_2 : decode cX8_judge 2 = .ok (.invokevirtual 234, 3) := by decide +kernel
theorem dX8_judge_5 : decode cX8_judge 5 = .ok (.ifCond .ne 5, 3) := by decide +kernel
theorem dX8_judge_8 : decode cX8_judge 8 = .ok (.iconst (-1), 1) := by decide +kernel
theorem dX8_judge_9 : decode cX8_judge 9 = .ok (.ireturn, 1) := by decide +kernel
theorem dX8_judge_10 : decode cX8_judge 10 = .ok (.aload_n 0, 1) := by decide +kernel
theorem dX8_judge_11 : decode cX8_judge 11 = .ok (.iload_n 1, 1) := by decide +kernel
theorem dX8_judge_12 : decode cX8_judge 12 = .ok (.aload_n 0, 1) := by decide +kernel
theorem dX8_judge_13 : decode cX8_judge 13 = .ok (.getfield 202, 3) := by decide +kernel
theorem dX8_judge_16 : decode cX8_judge 16 = .ok (.invokevirtual 317, 3) := by decide +kernel
theorem dX8_judge_19 : decode cX8_judge 19 = .ok (.iconst 0, 1) := by decide +kernel
theorem dX8_judge_20 : decode cX8_judge 20 = .ok (.istore_n 2, 1) := by decide +kernel
theorem dX8_judge_21 : decode cX8_judge 21 = .ok (.iload_n 2, 1) := by decide +kernel
theorem dX8_judge_22 : decode cX8_judge 22 = .ok (.aload_n 0, 1) := by decide +kernel
theorem dX8_judge_23 : decode cX8_judge 23 = .ok (.getfield 202, 3) := by decide +kernel
theorem dX8_judge_26 : decode cX8_judge 26 = .ok (.if_icmp .ge 81, 3) := by decide +kernel
theorem dX8_judge_29 : decode cX8_judge 29 = .ok (.iload_n 2, 1) := by decide +kernel
theorem dX8_judge_30 : decode cX8_judge 30 = .ok (.aload_n 0, 1) := by decide +kernel
theorem dX8_judge_31 : decode cX8_judge 31 = .ok (.getfield 314, 3) := by decide +kernel
theorem dX8_judge_34 : decode cX8_judge 34 = .ok (.if_icmp .ge 7, 3) := by decide +kernel
theorem dX8_judge_37 : decode cX8_judge 37 = .ok (.iconst 1, 1) := by decide +kernel
theorem dX8_judge_38 : decode cX8_judge 38 = .ok (.goto 4, 3) := by decide +kernel
theorem dX8_judge_41 : decode cX8_judge 41 = .ok (.iconst 0, 1) := by decide +kernel
theorem dX8_judge_42 : decode cX8_judge 42 = .ok (.istore_n 3, 1) := by decide +kernel
theorem dX8_judge_43 : decode cX8_judge 43 = .ok (.iconst 0, 1) := by decide +kernel
theorem dX8_judge_44 : decode cX8_judge 44 = .ok (.istore 4, 2) := by decide +kernel
theorem dX8_judge_46 : decode cX8_judge 46 = .ok (.iload 4, 2) := by decide +kernel
theorem dX8_judge_48 : decode cX8_judge 48 = .ok (.iconst 3, 1) := by decide +kernel
theorem dX8_judge_49 : decode cX8_judge 49 = .ok (.if_icmp .ge 44, 3) := by decide +kernel
theorem dX8_judge_52 : decode cX8_judge 52 = .ok (.iload_n 3, 1) := by decide +kernel
theorem dX8_judge_53 : decode cX8_judge 53 = .ok (.ifCond .eq 40, 3) := by decide +kernel
theorem dX8_judge_56 : decode cX8_judge 56 = .ok (.aload_n 0, 1) := by decide +kernel
theorem dX8_judge_57 : decode cX8_judge 57 = .ok (.getfield 44, 3) := by decide +kernel
theorem dX8_judge_60 : decode cX8_judge 60 = .ok (.iconst 3, 1) := by decide +kernel
theorem dX8_judge_61 : decode cX8_judge 61 = .ok (.iload_n 2, 1) := by decide +kernel
theorem dX8_judge_62 : decode cX8_judge 62 = .ok (.imul, 1) := by decide +kernel
theorem dX8_judge_63 : decode cX8_judge 63 = .ok (.iload 4, 2) := by decide +kernel
theorem dX8_judge_65 : decode cX8_judge 65 = .ok (.iadd, 1) := by decide +kernel
theorem dX8_judge_66 : decode cX8_judge 66 = .ok (.iaload, 1) := by decide +kernel
theorem dX8_judge_67 : decode cX8_judge 67 = .ok (.aload_n 0, 1) := by decide +kernel
theorem dX8_judge_68 : decode cX8_judge 68 = .ok (.getfield 47, 3) := by decide +kernel
theorem dX8_judge_71 : decode cX8_judge 71 = .ok (.iconst 3, 1) := by decide +kernel
theorem dX8_judge_72 : decode cX8_judge 72 = .ok (.iload_n 2, 1) := by decide +kernel
theorem dX8_judge_73 : decode cX8_judge 73 = .ok (.imul, 1) := by decide +kernel
theorem dX8_judge_74 : decode cX8_judge 74 = .ok (.iload 4, 2) := by decide +kernel
theorem dX8_judge_76 : decode cX8_judge 76 = .ok (.iadd, 1) := by decide +kernel
theorem dX8_judge_77 : decode cX8_judge 77 = .ok (.iaload, 1) := by decide +kernel
theorem dX8_judge_78 : decode cX8_judge 78 = .ok (.if_icmp .ne 7, 3) := by decide +kernel
theorem dX8_judge_81 : decode cX8_judge 81 = .ok (.iconst 1, 1) := by decide +kernel
theorem dX8_judge_82 : decode cX8_judge 82 = .ok (.goto 4, 3) := by decide +kernel
theorem dX8_judge_85 : decode cX8_judge 85 = .ok (.iconst 0, 1) := by decide +kernel
theorem dX8_judge_86 : decode cX8_judge 86 = .ok (.istore_n 3, 1) := by decide +kernel
theorem dX8_judge_87 : decode cX8_judge 87 = .ok (.iinc 4 1, 3) := by decide +kernel
theorem dX8_judge_90 : decode cX8_judge 90 = .ok (.goto (-44), 3) := by decide +kernel
theorem dX8_judge_93 : decode cX8_judge 93 = .ok (.iload_n 3, 1) := by decide +kernel
theorem dX8_judge_94 : decode cX8_judge 94 = .ok (.ifCond .ne 7, 3) := by decide +kernel
theorem dX8_judge_97 : decode cX8_judge 97 = .ok (.iload_n 2, 1) := by decide +kernel
theorem dX8_judge_98 : decode cX8_judge 98 = .ok (.iconst 1, 1) := by decide +kernel
theorem dX8_judge_99 : decode cX8_judge 99 = .ok (.iadd, 1) := by decide +kernel
theorem dX8_judge_100 : decode cX8_judge 100 = .ok (.ireturn, 1) := by decide +kernel
theorem dX8_judge_101 : decode cX8_judge 101 = .ok (.iinc 2 1, 3) := by decide +kernel
theorem dX8_judge_104 : decode cX8_judge 104 = .ok (.goto (-83), 3) := by decide +kernel
theorem dX8_judge_107 : decode cX8_judge 107 = .ok (.iconst 0, 1) := by decide +kernel
theorem dX8_judge_108 : decode cX8_judge 108 = .ok (.ireturn, 1) := by decide +kernel
theorem dX8_warms_0 : decode cX8_warms 0 = .ok (.iload_n 1, 1) := by decide +kernel
theorem dX8_warms_1 : decode cX8_warms 1 = .ok (.invokestatic 324, 3) := by decide +kernel
theorem dX8_warms_4 : decode cX8_warms 4 = .ok (.ifCond .eq 30, 3) := by decide +kernel
theorem dX8_warms_7 : decode cX8_warms 7 = .ok (.iload_n 3, 1) := by decide +kernel
theorem dX8_warms_8 : decode cX8_warms 8 = .ok (.invokestatic 205, 3) := by decide +kernel
theorem dX8_warms_11 : decode cX8_warms 11 = .ok (.ifCond .eq 23, 3) := by decide +kernel
theorem dX8_warms_14 : decode cX8_warms 14 = .ok (.iload 4, 2) := by decide +kernel
theorem dX8_warms_16 : decode cX8_warms 16 = .ok (.iconst 0, 1) := by decide +kernel
theorem dX8_warms_17 : decode cX8_warms 17 = .ok (.bipush 24, 2) := by decide +kernel
theorem dX8_warms_19 : decode cX8_warms 19 = .ok (.invokestatic 78, 3) := by decide +kernel
theorem dX8_warms_22 : decode cX8_warms 22 = .ok (.ifCond .eq 12, 3) := by decide +kernel
theorem dX8_warms_25 : decode cX8_warms 25 = .ok (.iload_n 3, 1) := by decide +kernel
theorem dX8_warms_26 : decode cX8_warms 26 = .ok (.iload 4, 2) := by decide +kernel
theorem dX8_warms_28 : decode cX8_warms 28 = .ok (.iadd, 1) := by decide +kernel
theorem dX8_warms_29 : decode cX8_warms 29 = .ok (.bipush 24, 2) := by decide +kernel
theorem dX8_warms_31 : decode cX8_warms 31 = .ok (.if_icmp .le 5, 3) := by decide +kernel
theorem dX8_warms_34 : decode cX8_warms 34 = .ok (.iconst (-1), 1) := by decide +kernel
theorem dX8_warms_35 : decode cX8_warms 35 = .ok (.ireturn, 1) := by decide +kernel
theorem dX8_warms_36 : decode cX8_warms 36 = .ok (.aload_n 0, 1) := by decide +kernel
theorem dX8_warms_37 : decode cX8_warms 37 = .ok (.iload_n 1, 1) := by decide +kernel
theorem dX8_warms_38 : decode cX8_warms 38 = .ok (.iconst 0, 1) := by decide +kernel
theorem dX8_warms_39 : decode cX8_warms 39 = .ok (.invokevirtual 327, 3) := by decide +kernel
theorem dX8_warms_42 : decode cX8_warms 42 = .ok (.istore 5, 2) := by decide +kernel
theorem dX8_warms_44 : decode cX8_warms 44 = .ok (.iload 5, 2) := by decide +kernel
theorem dX8_warms_46 : decode cX8_warms 46 = .ok (.ifCond .eq 6, 3) := by decide +kernel
theorem dX8_warms_49 : decode cX8_warms 49 = .ok (.iload 5, 2) := by decide +kernel
theorem dX8_warms_51 : decode cX8_warms 51 = .ok (.ireturn, 1) := by decide +kernel
theorem dX8_warms_52 : decode cX8_warms 52 = .ok (.iload_n 2, 1) := by decide +kernel
theorem dX8_warms_53 : decode cX8_warms 53 = .ok (.ifCond .lt 16, 3) := by decide +kernel
theorem dX8_warms_56 : decode cX8_warms 56 = .ok (.iload_n 2, 1) := by decide +kernel
theorem dX8_warms_57 : decode cX8_warms 57 = .ok (.aload_n 0, 1) := by decide +kernel
theorem dX8_warms_58 : decode cX8_warms 58 = .ok (.getfield 53, 3) := by decide +kernel
theorem dX8_warms_61 : decode cX8_warms 61 = .ok (.iload_n 1, 1) := by decide +kernel
theorem dX8_warms_62 : decode cX8_warms 62 = .ok (.iaload, 1) := by decide +kernel
theorem dX8_warms_63 : decode cX8_warms 63 = .ok (.iload 4, 2) := by decide +kernel
theorem dX8_warms_65 : decode cX8_warms 65 = .ok (.isub, 1) := by decide +kernel
theorem dX8_warms_66 : decode cX8_warms 66 = .ok (.if_icmp .le 6, 3) := by decide +kernel
theorem dX8_warms_69 : decode cX8_warms 69 = .ok (.bipush (-12), 2) := by decide +kernel
theorem dX8_warms_71 : decode cX8_warms 71 = .ok (.ireturn, 1) := by decide +kernel
theorem dX8_warms_72 : decode cX8_warms 72 = .ok (.iconst 0, 1) := by decide +kernel
theorem dX8_warms_73 : decode cX8_warms 73 = .ok (.istore 6, 2) := by decide +kernel
theorem dX8_warms_75 : decode cX8_warms 75 = .ok (.iload 6, 2) := by decide +kernel
theorem dX8_warms_77 : decode cX8_warms 77 = .ok (.iload 4, 2) := by decide +kernel
theorem dX8_warms_79 : decode cX8_warms 79 = .ok (.if_icmp .ge 65, 3) := by decide +kernel
theorem dX8_warms_82 : decode cX8_warms 82 = .ok (.aload_n 0, 1) := by decide +kernel
theorem dX8_warms_83 : decode cX8_warms 83 = .ok (.getfield 56, 3) := by decide +kernel
theorem dX8_warms_86 : decode cX8_warms 86 = .ok (.bipush 40, 2) := by decide +kernel
theorem dX8_warms_88 : decode cX8_warms 88 = .ok (.iload_n 1, 1) := by decide +kernel
theorem dX8_warms_89 : decode cX8_warms 89 = .ok (.imul, 1) := by decide +kernel
theorem dX8_warms_90 : decode cX8_warms 90 = .ok (.iload_n 2, 1) := by decide +kernel
theorem dX8_warms_91 : decode cX8_warms 91 = .ok (.iadd, 1) := by decide +kernel
theorem dX8_warms_92 : decode cX8_warms 92 = .ok (.iload 6, 2) := by decide +kernel
theorem dX8_warms_94 : decode cX8_warms 94 = .ok (.iadd, 1) := by decide +kernel
theorem dX8_warms_95 : decode cX8_warms 95 = .ok (.laload, 1) := by decide +kernel
theorem dX8_warms_96 : decode cX8_warms 96 = .ok (.lstore 7, 2) := by decide +kernel
theorem dX8_warms_98 : decode cX8_warms 98 = .ok (.aload_n 0, 1) := by decide +kernel
theorem dX8_warms_99 : decode cX8_warms 99 = .ok (.getfield 7, 3) := by decide +kernel
theorem dX8_warms_102 : decode cX8_warms 102 = .ok (.iload_n 3, 1) := by decide +kernel
theorem dX8_warms_103 : decode cX8_warms 103 = .ok (.iload 6, 2) := by decide +kernel
theorem dX8_warms_105 : decode cX8_warms 105 = .ok (.iadd, 1) := by decide +kernel
theorem dX8_warms_106 : decode cX8_warms 106 = .ok (.lload 7, 2) := by decide +kernel
theorem dX8_warms_108 : decode cX8_warms 108 = .ok (.ldc2_w 330, 3) := by decide +kernel
theorem dX8_warms_111 : decode cX8_warms 111 = .ok (.lcmp, 1) := by decide +kernel
theorem dX8_warms_112 : decode cX8_warms 112 = .ok (.ifCond .ge 8, 3) := by decide +kernel
theorem dX8_warms_115 : decode cX8_warms 115 = .ok (.bipush (-20), 2) := by decide +kernel
theorem dX8_warms_117 : decode cX8_warms 117 = .ok (.goto 20, 3) := by decide +kernel
theorem dX8_warms_120 : decode cX8_warms 120 = .ok (.lload 7, 2) := by decide +kernel
theorem dX8_warms_122 : decode cX8_warms 122 = .ok (.ldc2_w 332, 3) := by decide +kernel
theorem dX8_warms_125 : decode cX8_warms 125 = .ok (.lcmp, 1) := by decide +kernel
theorem dX8_warms_126 : decode cX8_warms 126 = .ok (.ifCond .le 8, 3) := by decide +kernel
theorem dX8_warms_129 : decode cX8_warms 129 = .ok (.bipush 40, 2) := by decide +kernel
theorem dX8_warms_131 : decode cX8_warms 131 = .ok (.goto 6, 3) := by decide +kernel
theorem dX8_warms_134 : decode cX8_warms 134 = .ok (.lload 7, 2) := by decide +kernel
theorem dX8_warms_136 : decode cX8_warms 136 = .ok (.l2i, 1) := by decide +kernel
theorem dX8_warms_137 : decode cX8_warms 137 = .ok (.iastore, 1) := by decide +kernel
theorem dX8_warms_138 : decode cX8_warms 138 = .ok (.iinc 6 1, 3) := by decide +kernel
theorem dX8_warms_141 : decode cX8_warms 141 = .ok (.goto (-66), 3) := by decide +kernel
theorem dX8_warms_144 : decode cX8_warms 144 = .ok (.iload 4, 2) := by decide +kernel
theorem dX8_warms_146 : decode cX8_warms 146 = .ok (.ireturn, 1) := by decide +kernel
theorem dX8_isShelf_0 : decode cX8_isShelf 0 = .ok (.iload_n 0, 1) := by decide +kernel
theorem dX8_isShelf_1 : decode cX8_isShelf 1 = .ok (.iconst 0, 1) := by decide +kernel
theorem dX8_isShelf_2 : decode cX8_isShelf 2 = .ok (.iconst 3, 1) := by decide +kernel
theorem dX8_isShelf_3 : decode cX8_isShelf 3 = .ok (.invokestatic 78, 3) := by decide +kernel
theorem dX8_isShelf_6 : decode cX8_isShelf 6 = .ok (.ireturn, 1) := by decide +kernel
theorem dX8_sheet_0 : decode cX8_sheet 0 = .ok (.iload_n 1, 1) := by decide +kernel
theorem dX8_sheet_1 : decode cX8_sheet 1 = .ok (.invokestatic 324, 3) := by decide +kernel
theorem dX8_sheet_4 : decode cX8_sheet 4 = .ok (.ifCond .eq 22, 3) := by decide +kernel
theorem dX8_sheet_7 : decode cX8_sheet 7 = .ok (.iload_n 2, 1) := by decide +kernel
theorem dX8_sheet_8 : decode cX8_sheet 8 = .ok (.iconst (-1), 1) := by decide +kernel
theorem dX8_sheet_9 : decode cX8_sheet 9 = .ok (.iconst 3, 1) := by decide +kernel
theorem dX8_sheet_10 : decode cX8_sheet 10 = .ok (.invokestatic 78, 3) := by decide +kernel
theorem dX8_sheet_13 : decode cX8_sheet 13 = .ok (.ifCond .eq 13, 3) := by decide +kernel
theorem dX8_sheet_16 : decode cX8_sheet 16 = .ok (.iload_n 2, 1) := by decide +kernel
theorem dX8_sheet_17 : decode cX8_sheet 17 = .ok (.ifCond .lt 11, 3) := by decide +kernel
theorem dX8_sheet_20 : decode cX8_sheet 20 = .ok (.iload_n 3, 1) := by decide +kernel
theorem dX8_sheet_21 : decode cX8_sheet 21 = .ok (.bipush 40, 2) := by decide +kernel
theorem dX8_sheet_23 : decode cX8_sheet 23 = .ok (.if_icmp .le 5, 3) := by decide +kernel
theorem dX8_sheet_26 : decode cX8_sheet 26 = .ok (.iconst (-1), 1) := by decide +kernel
theorem dX8_sheet_27 : decode cX8_sheet 27 = .ok (.ireturn, 1) := by decide +kernel
theorem dX8_sheet_28 : decode cX8_sheet 28 = .ok (.iload_n 2, 1) := by decide +kernel
theorem dX8_sheet_29 : decode cX8_sheet 29 = .ok (.ifCond .lt 10, 3) := by decide +kernel
theorem dX8_sheet_32 : decode cX8_sheet 32 = .ok (.iload_n 3, 1) := by decide +kernel
theorem dX8_sheet_33 : decode cX8_sheet 33 = .ok (.ifCond .ge 6, 3) := by decide +kernel
theorem dX8_sheet_36 : decode cX8_sheet 36 = .ok (.bipush (-14), 2) := by decide +kernel
theorem dX8_sheet_38 : decode cX8_sheet 38 = .ok (.ireturn, 1) := by decide +kernel
theorem dX8_sheet_39 : decode cX8_sheet 39 = .ok (.aload_n 0, 1) := by decide +kernel
theorem dX8_sheet_40 : decode cX8_sheet 40 = .ok (.getfield 50, 3) := by decide +kernel
theorem dX8_sheet_43 : decode cX8_sheet 43 = .ok (.iload_n 1, 1) := by decide +kernel
theorem dX8_sheet_44 : decode cX8_sheet 44 = .ok (.iload_n 2, 1) := by decide +kernel
theorem dX8_sheet_45 : decode cX8_sheet 45 = .ok (.iastore, 1) := by decide +kernel
theorem dX8_sheet_46 : decode cX8_sheet 46 = .ok (.aload_n 0, 1) := by decide +kernel
theorem dX8_sheet_47 : decode cX8_sheet 47 = .ok (.getfield 53, 3) := by decide +kernel
theorem dX8_sheet_50 : decode cX8_sheet 50 = .ok (.iload_n 1, 1) := by decide +kernel
theorem dX8_sheet_51 : decode cX8_sheet 51 = .ok (.iload_n 2, 1) := by decide +kernel
theorem dX8_sheet_52 : decode cX8_sheet 52 = .ok (.ifCond .ge 7, 3) := by decide +kernel
theorem dX8_sheet_55 : decode cX8_sheet 55 = .ok (.iconst 0, 1) := by decide +kernel
theorem dX8_sheet_56 : decode cX8_sheet 56 = .ok (.goto 4, 3) := by decide +kernel
theorem dX8_sheet_59 : decode cX8_sheet 59 = .ok (.iload_n 3, 1) := by decide +kernel
theorem dX8_sheet_60 : decode cX8_sheet 60 = .ok (.iastore, 1) := by decide +kernel
theorem dX8_sheet_61 : decode cX8_sheet 61 = .ok (.iconst 0, 1) := by decide +kernel
theorem dX8_sheet_62 : decode cX8_sheet 62 = .ok (.istore 4, 2) := by decide +kernel
theorem dX8_sheet_64 : decode cX8_sheet 64 = .ok (.iload 4, 2) := by decide +kernel
theorem dX8_sheet_66 : decode cX8_sheet 66 = .ok (.bipush 40, 2) := by decide +kernel
theorem dX8_sheet_68 : decode cX8_sheet 68 = .ok (.if_icmp .ge 22, 3) := by decide +kernel
theorem dX8_sheet_71 : decode cX8_sheet 71 = .ok (.aload_n 0, 1) := by decide +kernel
theorem dX8_sheet_72 : decode cX8_sheet 72 = .ok (.getfield 56, 3) := by decide +kernel
theorem dX8_sheet_75 : decode cX8_sheet 75 = .ok (.bipush 40, 2) := by decide +kernel
theorem dX8_sheet_77 : decode cX8_sheet 77 = .ok (.iload_n 1, 1) := by decide +kernel
theorem dX8_sheet_78 : decode cX8_sheet 78 = .ok (.imul, 1) := by decide +kernel
theorem dX8_sheet_79 : decode cX8_sheet 79 = .ok (.iload 4, 2) := by decide +kernel
theorem dX8_sheet_81 : decode cX8_sheet 81 = .ok (.iadd, 1) := by decide +kernel
theorem dX8_sheet_82 : decode cX8_sheet 82 = .ok (.lconst 0, 1) := by decide +kernel
theorem dX8_sheet_83 : decode cX8_sheet 83 = .ok (.lastore, 1) := by decide +kernel
theorem dX8_sheet_84 : decode cX8_sheet 84 = .ok (.iinc 4 1, 3) := by decide +kernel
theorem dX8_sheet_87 : decode cX8_sheet 87 = .ok (.goto (-23), 3) := by decide +kernel
