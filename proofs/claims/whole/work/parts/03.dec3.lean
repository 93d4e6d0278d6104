theorem dX6_hasRoom_33 : decode cX6_hasRoom 33 = .ok (.iconst 0, 1) := by decide +kernel
theorem dX6_hasRoom_34 : decode cX6_hasRoom 34 = .ok (.istore_n 3, 1) := by decide +kernel
theorem dX6_hasRoom_35 : decode cX6_hasRoom 35 = .ok (.aload_n 0, 1) := by decide +kernel
theorem dX6_hasRoom_36 : decode cX6_hasRoom 36 = .ok (.iload_n 1, 1) := by decide +kernel
theorem dX6_hasRoom_37 : decode cX6_hasRoom 37 = .ok (.bipush 17, 2) := by decide +kernel
theorem dX6_hasRoom_39 : decode cX6_hasRoom 39 = .ok (.invokevirtual 53, 3) := by decide +kernel
theorem dX6_hasRoom_42 : decode cX6_hasRoom 42 = .ok (.aload_n 0, 1) := by decide +kernel
theorem dX6_hasRoom_43 : decode cX6_hasRoom 43 = .ok (.iload_n 1, 1) := by decide +kernel
theorem dX6_hasRoom_44 : decode cX6_hasRoom 44 = .ok (.iconst 1, 1) := by decide +kernel
theorem dX6_hasRoom_45 : decode cX6_hasRoom 45 = .ok (.invokevirtual 53, 3) := by decide +kernel
theorem dX6_hasRoom_48 : decode cX6_hasRoom 48 = .ok (.lcmp, 1) := by decide +kernel
theorem dX6_hasRoom_49 : decode cX6_hasRoom 49 = .ok (.ifCond .ge 11, 3) := by decide +kernel
theorem dX6_hasRoom_52 : decode cX6_hasRoom 52 = .ok (.iload_n 3, 1) := by decide +kernel
theorem dX6_hasRoom_53 : decode cX6_hasRoom 53 = .ok (.ifCond .ne 7, 3) := by decide +kernel
theorem dX6_hasRoom_56 : decode cX6_hasRoom 56 = .ok (.iconst 1, 1) := by decide +kernel
theorem dX6_hasRoom_57 : decode cX6_hasRoom 57 = .ok (.goto 4, 3) := by decide +kernel
theorem dX6_hasRoom_60 : decode cX6_hasRoom 60 = .ok (.iconst 0, 1) := by decide +kernel
theorem dX6_hasRoom_61 : decode cX6_hasRoom 61 = .ok (.ireturn, 1) := by decide +kernel
theorem dX6_take_0 : decode cX6_take 0 = .ok (.aload_n 0, 1) := by decide +kernel
theorem dX6_take_1 : decode cX6_take 1 = .ok (.getfield 7, 3) := by decide +kernel
theorem dX6_take_4 : decode cX6_take 4 = .ok (.bipush 7, 2) := by decide +kernel
theorem dX6_take_6 : decode cX6_take 6 = .ok (.laload, 1) := by decide +kernel
theorem dX6_take_7 : decode cX6_take 7 = .ok (.l2i, 1) := by decide +kernel
theorem dX6_take_8 : decode cX6_take 8 = .ok (.istore 4, 2) := by decide +kernel
theorem dX6_take_10 : decode cX6_take 10 = .ok (.aload_n 0, 1) := by decide +kernel
theorem dX6_take_11 : decode cX6_take 11 = .ok (.getfield 7, 3) := by decide +kernel
theorem dX6_take_14 : decode cX6_take 14 = .ok (.iconst 1, 1) := by decide +kernel
theorem dX6_take_15 : decode cX6_take 15 = .ok (.laload, 1) := by decide +kernel
theorem dX6_take_16 : decode cX6_take 16 = .ok (.aload_n 0, 1) := by decide +kernel
theorem dX6_take_17 : decode cX6_take 17 = .ok (.iload_n 1, 1) := by decide +kernel
theorem dX6_take_18 : decode cX6_take 18 = .ok (.bipush 12, 2) := by decide +kernel
theorem dX6_take_20 : decode cX6_take 20 = .ok (.invokevirtual 53, 3) := by decide +kernel
theorem dX6_take_23 : decode cX6_take 23 = .ok (.lcmp, 1) := by decide +kernel
theorem dX6_take_24 : decode cX6_take 24 = .ok (.ifCond .le 12, 3) := by decide +kernel
theorem dX6_take_27 : decode cX6_take 27 = .ok (.aload_n 0, 1) := by decide +kernel
theorem dX6_take_28 : decode cX6_take 28 = .ok (.getfield 7, 3) := by decide +kernel
theorem dX6_take_31 : decode cX6_take 31 = .ok (.iconst 1, 1) := by decide +kernel
theorem dX6_take_32 : decode cX6_take 32 = .ok (.laload, 1) := by decide +kernel
theorem dX6_take_33 : decode cX6_take 33 = .ok (.goto 10, 3) := by decide +kernel
theorem dX6_take_36 : decode cX6_take 36 = .ok (.aload_n 0, 1) := by decide +kernel
theorem dX6_take_37 : decode cX6_take 37 = .ok (.iload_n 1, 1) := by decide +kernel
theorem dX6_take_38 : decode cX6_take 38 = .ok (.bipush 12, 2) := by decide +kernel
theorem dX6_take_40 : decode cX6_take 40 = .ok (.invokevirtual 53, 3) := by decide +kernel
theorem dX6_take_43 : decode cX6_take 43 = .ok (.lstore 5, 2) := by decide +kernel
theorem dX6_take_45 : decode cX6_take 45 = .ok (.aload_n 0, 1) := by decide +kernel
theorem dX6_take_46 : decode cX6_take 46 = .ok (.getfield 7, 3) := by decide +kernel
theorem dX6_take_49 : decode cX6_take 49 = .ok (.iload 4, 2) := by decide +kernel
theorem dX6_take_51 : decode cX6_take 51 = .ok (.iconst 0, 1) := by decide +kernel
theorem dX6_take_52 : decode cX6_take 52 = .ok (.invokestatic 46, 3) := by decide +kernel
theorem dX6_take_55 : decode cX6_take 55 = .ok (.iload_n 1, 1) := by decide +kernel
theorem dX6_take_56 : decode cX6_take 56 = .ok (.i2l, 1) := by decide +kernel
theorem dX6_take_57 : decode cX6_take 57 = .ok (.lastore, 1) := by decide +kernel
theorem dX6_take_58 : decode cX6_take 58 = .ok (.aload_n 0, 1) := by decide +kernel
theorem dX6_take_59 : decode cX6_take 59 = .ok (.getfield 7, 3) := by decide +kernel
theorem dX6_take_62 : decode cX6_take 62 = .ok (.iload 4, 2) := by decide +kernel
theorem dX6_take_64 : decode cX6_take 64 = .ok (.iconst 1, 1) := by decide +kernel
theorem dX6_take_65 : decode cX6_take 65 = .ok (.invokestatic 46, 3) := by decide +kernel
theorem dX6_take_68 : decode cX6_take 68 = .ok (.iload_n 2, 1) := by decide +kernel
theorem dX6_take_69 : decode cX6_take 69 = .ok (.i2l, 1) := by decide +kernel
theorem dX6_take_70 : decode cX6_take 70 = .ok (.lastore, 1) := by decide +kernel
theorem dX6_take_71 : decode cX6_take 71 = .ok (.aload_n 0, 1) := by decide +kernel
theorem dX6_take_72 : decode cX6_take 72 = .ok (.getfield 7, 3) := by decide +kernel
theorem dX6_take_75 : decode cX6_take 75 = .ok (.iload 4, 2) := by decide +kernel
theorem dX6_take_77 : decode cX6_take 77 = .ok (.iconst 2, 1) := by decide +kernel
theorem dX6_take_78 : decode cX6_take 78 = .ok (.invokestatic 46, 3) := by decide +kernel
theorem dX6_take_81 : decode cX6_take 81 = .ok (.aload_n 0, 1) := by decide +kernel
theorem dX6_take_82 : decode cX6_take 82 = .ok (.getfield 7, 3) := by decide +kernel
theorem dX6_take_85 : decode cX6_take 85 = .ok (.iconst 0, 1) := by decide +kernel
theorem dX6_take_86 : decode cX6_take 86 = .ok (.laload, 1) := by decide +kernel
theorem dX6_take_87 : decode cX6_take 87 = .ok (.lastore, 1) := by decide +kernel
theorem dX6_take_88 : decode cX6_take 88 = .ok (.aload_n 0, 1) := by decide +kernel
theorem dX6_take_89 : decode cX6_take 89 = .ok (.getfield 7, 3) := by decide +kernel
theorem dX6_take_92 : decode cX6_take 92 = .ok (.iload 4, 2) := by decide +kernel
theorem dX6_take_94 : decode cX6_take 94 = .ok (.iconst 3, 1) := by decide +kernel
theorem dX6_take_95 : decode cX6_take 95 = .ok (.invokestatic 46, 3) := by decide +kernel
theorem dX6_take_98 : decode cX6_take 98 = .ok (.iload_n 3, 1) := by decide +kernel
theorem dX6_take_99 : decode cX6_take 99 = .ok (.ifCond .ne 9, 3) := by decide +kernel
theorem dX6_take_102 : decode cX6_take 102 = .ok (.ldc2_w 34, 3) := by decide +kernel
theorem dX6_take_105 : decode cX6_take 105 = .ok (.goto 12, 3) := by decide +kernel
theorem dX6_take_108 : decode cX6_take 108 = .ok (.aload_n 0, 1) := by decide +kernel
theorem dX6_take_109 : decode cX6_take 109 = .ok (.getfield 7, 3) := by decide +kernel
theorem dX6_take_112 : decode cX6_take 112 = .ok (.iconst 0, 1) := by decide +kernel
theorem dX6_take_113 : decode cX6_take 113 = .ok (.laload, 1) := by decide +kernel
theorem dX6_take_114 : decode cX6_take 114 = .ok (.iload_n 3, 1) := by decide +kernel
theorem dX6_take_115 : decode cX6_take 115 = .ok (.i2l, 1) := by decide +kernel
theorem dX6_take_116 : decode cX6_take 116 = .ok (.ladd, 1) := by decide +kernel
theorem dX6_take_117 : decode cX6_take 117 = .ok (.lastore, 1) := by decide +kernel
theorem dX6_take_118 : decode cX6_take 118 = .ok (.aload_n 0, 1) := by decide +kernel
theorem dX6_take_119 : decode cX6_take 119 = .ok (.getfield 7, 3) := by decide +kernel
theorem dX6_take_122 : decode cX6_take 122 = .ok (.iload 4, 2) := by decide +kernel
theorem dX6_take_124 : decode cX6_take 124 = .ok (.iconst 4, 1) := by decide +kernel
theorem dX6_take_125 : decode cX6_take 125 = .ok (.invokestatic 46, 3) := by decide +kernel
theorem dX6_take_128 : decode cX6_take 128 = .ok (.lconst 0, 1) := by decide +kernel
theorem dX6_take_129 : decode cX6_take 129 = .ok (.lastore, 1) := by decide +kernel
theorem dX6_take_130 : decode cX6_take 130 = .ok (.aload_n 0, 1) := by decide +kernel
theorem dX6_take_131 : decode cX6_take 131 = .ok (.getfield 7, 3) := by decide +kernel
theorem dX6_take_134 : decode cX6_take 134 = .ok (.iload 4, 2) := by decide +kernel
theorem dX6_take_136 : decode cX6_take 136 = .ok (.iconst 5, 1) := by decide +kernel
theorem dX6_take_137 : decode cX6_take 137 = .ok (.invokestatic 46, 3) := by decide +kernel
theorem dX6_take_140 : decode cX6_take 140 = .ok (.lconst 0, 1) := by decide +kernel
theorem dX6_take_141 : decode cX6_take 141 = .ok (.lastore, 1) := by decide +kernel
theorem dX6_take_142 : decode cX6_take 142 = .ok (.aload_n 0, 1) := by decide +kernel
theorem dX6_take_143 : decode cX6_take 143 = .ok (.getfield 7, 3) := by decide +kernel
theorem dX6_take_146 : decode cX6_take 146 = .ok (.iload 4, 2) := by decide +kernel
theorem dX6_take_148 : decode cX6_take 148 = .ok (.bipush 6, 2) := by decide +kernel
theorem dX6_take_150 : decode cX6_take 150 = .ok (.invokestatic 46, 3) := by decide +kernel
theorem dX6_take_153 : decode cX6_take 153 = .ok (.lconst 0, 1) := by decide +kernel
theorem dX6_take_154 : decode cX6_take 154 = .ok (.lastore, 1) := by decide +kernel
theorem dX6_take_155 : decode cX6_take 155 = .ok (.aload_n 0, 1) := by decide +kernel
theorem dX6_take_156 : decode cX6_take 156 = .ok (.getfield 7, 3) := by decide +kernel
theorem dX6_take_159 : decode cX6_take 159 = .ok (.iload 4, 2) := by decide +kernel
theorem dX6_take_161 : decode cX6_take 161 = .ok (.bipush 7, 2) := by decide +kernel
theorem dX6_take_163 : decode cX6_take 163 = .ok (.invokestatic 46, 3) := by decide +kernel
theorem dX6_take_166 : decode cX6_take 166 = .ok (.lconst 0, 1) := by decide +kernel
theorem dX6_take_167 : decode cX6_take 167 = .ok (.lastore, 1) := by decide +kernel
theorem dX6_take_168 : decode cX6_take 168 = .ok (.aload_n 0, 1) := by decide +kernel
theorem dX6_take_169 : decode cX6_take 169 = .ok (.getfield 7, 3) := by decide +kernel
theorem dX6_take_172 : decode cX6_take 172 = .ok (.iload 4, 2) := by decide +kernel
theorem dX6_take_174 : decode cX6_take 174 = .ok (.bipush 8, 2) := by decide +kernel
theorem dX6_take_176 : decode cX6_take 176 = .ok (.invokestatic 46, 3) := by decide +kernel
theorem dX6_take_179 : decode cX6_take 179 = .ok (.ldc2_w 34, 3) := by decide +kernel
theorem dX6_take_182 : decode cX6_take 182 = .ok (.lastore, 1) := by decide +kernel
theorem dX6_take_183 : decode cX6_take 183 = .ok (.aload_n 0, 1) := by decide +kernel
theorem dX6_take_184 : decode cX6_take 184 = .ok (.getfield 7, 3) := by decide +kernel
theorem dX6_take_187 : decode cX6_take 187 = .ok (.iload 4, 2) := by decide +kernel
theorem dX6_take_189 : decode cX6_take 189 = .ok (.bipush 9, 2) := by decide +kernel
theorem dX6_take_191 : decode cX6_take 191 = .ok (.invokestatic 46, 3) := by decide +kernel
theorem dX6_take_194 : decode cX6_take 194 = .ok (.lload 5, 2) := by decide +kernel
theorem dX6_take_196 : decode cX6_take 196 = .ok (.lastore, 1) := by decide +kernel
theorem dX6_take_197 : decode cX6_take 197 = .ok (.aload_n 0, 1) := by decide +kernel
theorem dX6_take_198 : decode cX6_take 198 = .ok (.getfield 7, 3) := by decide +kernel
theorem dX6_take_201 : decode cX6_take 201 = .ok (.iload 4, 2) := by decide +kernel
theorem dX6_take_203 : decode cX6_take 203 = .ok (.bipush 10, 2) := by decide +kernel
theorem dX6_take_205 : decode cX6_take 205 = .ok (.invokestatic 46, 3) := by decide +kernel
theorem dX6_take_208 : decode cX6_take 208 = .ok (.lconst 0, 1) := by decide +kernel
theorem dX6_take_209 : decode cX6_take 209 = .ok (.lastore, 1) := by decide +kernel
theorem dX6_take_210 : decode cX6_take 210 = .ok (.aload_n 0, 1) := by decide +kernel
theorem dX6_take_211 : decode cX6_take 211 = .ok (.getfield 7, 3) := by decide +kernel
theorem dX6_take_214 : decode cX6_take 214 = .ok (.iload_n 1, 1) := by decide +kernel
theorem dX6_take_215 : decode cX6_take 215 = .ok (.bipush 12, 2) := by decide +kernel
theorem dX6_take_217 : decode cX6_take 217 = .ok (.invokestatic 40, 3) := by decide +kernel
theorem dX6_take_220 : decode cX6_take 220 = .ok (.lload 5, 2) := by decide +kernel
theorem dX6_take_222 : decode cX6_take 222 = .ok (.iload_n 2, 1) := by decide +kernel
theorem dX6_take_223 : decode cX6_take 223 = .ok (.i2l, 1) := by decide +kernel
theorem dX6_take_224 : decode cX6_take 224 = .ok (.ldc2_w 81, 3) := by decide +kernel
theorem dX6_take_227 : decode cX6_take 227 = .ok (.lmul, 1) := by decide +kernel
theorem dX6_take_228 : decode cX6_take 228 = .ok (.aload_n 0, 1) := by decide +kernel
theorem dX6_take_229 : decode cX6_take 229 = .ok (.iload_n 1, 1) := by decide +kernel
theorem dX6_take_230 : decode cX6_take 230 = .ok (.iconst 0, 1) := by decide +kernel
theorem dX6_take_231 : decode cX6_take 231 = .ok (.invokevirtual 53, 3) := by decide +kernel
theorem dX6_take_234 : decode cX6_take 234 = .ok (.ldiv, 1) := by decide +kernel
theorem dX6_take_235 : decode cX6_take 235 = .ok (.ladd, 1) := by decide +kernel
theorem dX6_take_236 : decode cX6_take 236 = .ok (.lastore, 1) := by decide +kernel
theorem dX6_take_237 : decode cX6_take 237 = .ok (.aload_n 0, 1) := by decide +kernel
theorem dX6_take_238 : decode cX6_take 238 = .ok (.getfield 7, 3) := by decide +kernel
theorem dX6_take_241 : decode cX6_take 241 = .ok (.iload_n 1, 1) := by decide +kernel
theorem dX6_take_242 : decode cX6_take 242 = .ok (.bipush 14, 2) := by decide +kernel
theorem dX6_take_244 : decode cX6_take 244 = .ok (.invokestatic 40, 3) := by decide +kernel
theorem dX6_take_247 : decode cX6_take 247 = .ok (.dup2, 1) := by decide +kernel
theorem dX6_take_248 : decode cX6_take 248 = .ok (.laload, 1) := by decide +kernel
theorem dX6_take_249 : decode cX6_take 249 = .ok (.iload_n 2, 1) := by decide +kernel
theorem dX6_take_250 : decode cX6_take 250 = .ok (.i2l, 1) := by decide +kernel
theorem dX6_take_251 : decode cX6_take 251 = .ok (.ldc2_w 81, 3) := by decide +kernel
theorem dX6_take_254 : decode cX6_take 254 = .ok (.lmul, 1) := by decide +kernel
theorem dX6_take_255 : decode cX6_take 255 = .ok (.ladd, 1) := by decide +kernel
theorem dX6_take_256 : decode cX6_take 256 = .ok (.lastore, 1) := by decide +kernel
theorem dX6_take_257 : decode cX6_take 257 = .ok (.aload_n 0, 1) := by decide +kernel
theorem dX6_take_258 : decode cX6_take 258 = .ok (.getfield 7, 3) := by decide +kernel
theorem dX6_take_261 : decode cX6_take 261 = .ok (.iload_n 1, 1) := by decide +kernel
theorem dX6_take_262 : decode cX6_take 262 = .ok (.bipush 17, 2) := by decide +kernel
theorem dX6_take_264 : decode cX6_take 264 = .ok (.invokestatic 40, 3) := by decide +kernel
theorem dX6_take_267 : decode cX6_take 267 = .ok (.dup2, 1) := by decide +kernel
theorem dX6_take_268 : decode cX6_take 268 = .ok (.laload, 1) := by decide +kernel
theorem dX6_take_269 : decode cX6_take 269 = .ok (.lconst 1, 1) := by decide +kernel
theorem dX6_take_270 : decode cX6_take 270 = .ok (.ladd, 1) := by decide +kernel
theorem dX6_take_271 : decode cX6_take 271 = .ok (.lastore, 1) := by decide +kernel
theorem dX6_take_272 : decode cX6_take 272 = .ok (.aload_n 0, 1) := by decide +kernel
theorem dX6_take_273 : decode cX6_take 273 = .ok (.getfield 7, 3) := by decide +kernel
theorem dX6_take_276 : decode cX6_take 276 = .ok (.iload_n 1, 1) := by decide +kernel
theorem dX6_take_277 : decode cX6_take 277 = .ok (.bipush 11, 2) := by decide +kernel
theorem dX6_take_279 : decode cX6_take 279 = .ok (.invokestatic 40, 3) := by decide +kernel
theorem dX6_take_282 : decode cX6_take 282 = .ok (.dup2, 1) := by decide +kernel
theorem dX6_take_283 : decode cX6_take 283 = .ok (.laload, 1) := by decide +kernel
theorem dX6_take_284 : decode cX6_take 284 = .ok (.lconst 1, 1) := by decide +kernel
theorem dX6_take_285 : decode cX6_take 285 = .ok (.ladd, 1) := by decide +kernel
theorem dX6_take_286 : decode cX6_take 286 = .ok (.lastore, 1) := by decide +kernel
theorem dX6_take_287 : decode cX6_take 287 = .ok (.aload_n 0, 1) := by decide +kernel
theorem dX6_take_288 : decode cX6_take 288 = .ok (.getfield 7, 3) := by decide +kernel
theorem dX6_take_291 : decode cX6_take 291 = .ok (.bipush 7, 2) := by decide +kernel
theorem dX6_take_293 : decode cX6_take 293 = .ok (.dup2, 1) := by decide +kernel
theorem dX6_take_294 : decode cX6_take 294 = .ok (.laload, 1) := by decide +kernel
theorem dX6_take_295 : decode cX6_take 295 = .ok (.lconst 1, 1) := by decide +kernel
theorem dX6_take_296 : decode cX6_take 296 = .ok (.ladd, 1) := by decide +kernel
theorem dX6_take_297 : decode cX6_take 297 = .ok (.lastore, 1) := by decide +kernel
theorem dX6_take_298 : decode cX6_take 298 = .ok (.iload 4, 2) := by decide +kernel
theorem dX6_take_300 : decode cX6_take 300 = .ok (.ireturn, 1) := by decide +kernel
theorem dX6_offer_0 : decode cX6_offer 0 = .ok (.aload_n 0, 1) := by decide +kernel
theorem dX6_offer_1 : decode cX6_offer 1 = .ok (.iload_n 1, 1) := by decide +kernel
theorem dX6_offer_2 : decode cX6_offer 2 = .ok (.invokevirtual 72, 3) := by decide +kernel
theorem dX6_offer_5 : decode cX6_offer 5 = .ok (.ifCond .ne 5, 3) := by decide +kernel
theorem dX6_offer_8 : decode cX6_offer 8 = .ok (.iconst (-1), 1) := by decide +kernel
theorem dX6_offer_9 : decode cX6_offer 9 = .ok (.ireturn, 1) := by decide +kernel
theorem dX6_offer_10 : decode cX6_offer 10 = .ok (.iload_n 2, 1) := by decide +kernel
theorem dX6_offer_11 : decode cX6_offer 11 = .ok (.i2l, 1) := by decide +kernel
theorem dX6_offer_12 : decode cX6_offer 12 = .ok (.lconst 1, 1) := by decide +kernel
theorem dX6_offer_13 : decode cX6_offer 13 = .ok (.ldc2_w 83, 3) := by decide +kernel
theorem dX6_offer_16 : decode cX6_offer 16 = .ok (.invokestatic 36, 3) := by decide +kernel
theorem dX6_offer_19 : decode cX6_offer 19 = .ok (.ifCond .eq 15, 3) := by decide +kernel
theorem dX6_offer_22 : decode cX6_offer 22 = .ok (.iload_n 3, 1) := by decide +kernel
theorem dX6_offer_23 : decode cX6_offer 23 = .ok (.i2l, 1) := by decide +kernel
theorem dX6_offer_24 : decode cX6_offer 24 = .ok (.lconst 0, 1) := by decide +kernel
theorem dX6_offer_25 : decode cX6_offer 25 = .ok (.ldc2_w 85, 3) := by decide +kernel
theorem dX6_offer_28 : decode cX6_offer 28 = .ok (.invokestatic 36, 3) := by decide +kernel
theorem dX6_offer_31 : decode cX6_offer 31 = .ok (.ifCond .ne 6, 3) := by decide +kernel
theorem dX6_offer_34 : decode cX6_offer 34 = .ok (.bipush (-2), 2) := by decide +kernel
theorem dX6_offer_36 : decode cX6_offer 36 = .ok (.ireturn, 1) := by decide +kernel
theorem dX6_offer_37 : decode cX6_offer 37 = .ok (.aload_n 0, 1) := by decide +kernel
theorem dX6_offer_38 : decode cX6_offer 38 = .ok (.iload_n 1, 1) := by decide +kernel
theorem dX6_offer_39 : decode cX6_offer 39 = .ok (.invokevirtual 87, 3) := by decide +kernel
theorem dX6_offer_42 : decode cX6_offer 42 = .ok (.ifCond .eq 13, 3) := by decide +kernel
theorem dX6_offer_45 : decode cX6_offer 45 = .ok (.aload_n 0, 1) := by decide +kernel
theorem dX6_offer_46 : decode cX6_offer 46 = .ok (.iload_n 1, 1) := by decide +kernel
theorem dX6_offer_47 : decode cX6_offer 47 = .ok (.iload_n 2, 1) := by decide +kernel
theorem dX6_offer_48 : decode cX6_offer 48 = .ok (.iload_n 3, 1) := by decide +kernel
theorem dX6_offer_49 : decode cX6_offer 49 = .ok (.invokevirtual 90, 3) := by decide +kernel
theorem dX6_offer_52 : decode cX6_offer 52 = .ok (.goto 5, 3) := by decide +kernel
theorem dX6_offer_55 : decode cX6_offer 55 = .ok (.bipush (-4), 2) := by decide +kernel
theorem dX6_offer_57 : decode cX6_offer 57 = .ok (.ireturn, 1) := by decide +kernel
theorem dX6_cancel_0 : decode cX6_cancel 0 = .ok (.aload_n 0, 1) := by decide +kernel
theorem dX6_cancel_1 : decode cX6_cancel 1 = .ok (.iload_n 1, 1) := by decide +kernel
theorem dX6_cancel_2 : decode cX6_cancel 2 = .ok (.invokevirtual 94, 3) := by decide +kernel
theorem dX6_cancel_5 : decode cX6_cancel 5 = .ok (.ifCond .ne 5, 3) := by decide +kernel
theorem dX6_cancel_8 : decode cX6_cancel 8 = .ok (.iconst (-1), 1) := by decide +kernel
theorem dX6_cancel_9 : decode cX6_cancel 9 = .ok (.ireturn, 1) := by decide +kernel
theorem dX6_cancel_10 : decode cX6_cancel 10 = .ok (.aload_n 0, 1) := by decide +kernel
theorem dX6_cancel_11 : decode cX6_cancel 11 = .ok (.iload_n 1, 1) := by decide +kernel
theorem dX6_cancel_12 : decode cX6_cancel 12 = .ok (.iconst 4, 1) := by decide +kernel
theorem dX6_cancel_13 : decode cX6_cancel 13 = .ok (.invokevirtual 49, 3) := by decide +kernel
theorem dX6_cancel_16 : decode cX6_cancel 16 = .ok (.lconst 0, 1) := by decide +kernel
theorem dX6_cancel_17 : decode cX6_cancel 17 = .ok (.lcmp, 1) := by decide +kernel
theorem dX6_cancel_18 : decode cX6_cancel 18 = .ok (.ifCond .ne 14, 3) := by decide +kernel
theorem dX6_cancel_21 : decode cX6_cancel 21 = .ok (.aload_n 0, 1) := by decide +kernel
theorem dX6_cancel_22 : decode cX6_cancel 22 = .ok (.iload_n 1, 1) := by decide +kernel
theorem dX6_cancel_23 : decode cX6_cancel 23 = .ok (.iconst 5, 1) := by decide +kernel
theorem dX6_cancel_24 : decode cX6_cancel 24 = .ok (.invokevirtual 49, 3) := by decide +kernel
theorem dX6_cancel_27 : decode cX6_cancel 27 = .ok (.lconst 0, 1) := by decide +kernel
theorem dX6_cancel_28 : decode cX6_cancel 28 = .ok (.lcmp, 1) := by decide +kernel
theorem dX6_cancel_29 : decode cX6_cancel 29 = .ok (.ifCond .le 6, 3) := by decide +kernel
theorem dX6_cancel_32 : decode cX6_cancel 32 = .ok (.bipush (-5), 2) := by decide +kernel
theorem dX6_cancel_34 : decode cX6_cancel 34 = .ok (.ireturn, 1) := by decide +kernel
theorem dX6_cancel_35 : decode cX6_cancel 35 = .ok (.aload_n 0, 1) := by decide +kernel
theorem dX6_cancel_36 : decode cX6_cancel 36 = .ok (.getfield 7, 3) := by decide +kernel
theorem dX6_cancel_39 : decode cX6_cancel 39 = .ok (.iload_n 1, 1) := by decide +kernel
theorem dX6_cancel_40 : decode cX6_cancel 40 = .ok (.iconst 4, 1) := by decide +kernel
theorem dX6_cancel_41 : decode cX6_cancel 41 = .ok (.invokestatic 46, 3) := by decide +kernel
theorem dX6_cancel_44 : decode cX6_cancel 44 = .ok (.ldc2_w 97, 3) := by decide +kernel
theorem dX6_cancel_47 : decode cX6_cancel 47 = .ok (.lastore, 1) := by decide +kernel
theorem dX6_cancel_48 : decode cX6_cancel 48 = .ok (.aload_n 0, 1) := by decide +kernel
theorem dX6_cancel_49 : decode cX6_cancel 49 = .ok (.iload_n 1, 1) := by decide +kernel
theorem dX6_cancel_50 : decode cX6_cancel 50 = .ok (.iconst 0, 1) := by decide +kernel
theorem dX6_cancel_51 : decode cX6_cancel 51 = .ok (.invokevirtual 49, 3) := by decide +kernel
theorem dX6_cancel_54 : decode cX6_cancel 54 = .ok (.l2i, 1) := by decide +kernel
theorem dX6_cancel_55 : decode cX6_cancel 55 = .ok (.istore_n 2, 1) := by decide +kernel
theorem dX6_cancel_56 : decode cX6_cancel 56 = .ok (.aload_n 0, 1) := by decide +kernel
theorem dX6_cancel_57 : decode cX6_cancel 57 = .ok (.getfield 7, 3) := by decide +kernel
theorem dX6_cancel_60 : decode cX6_cancel 60 = .ok (.iload_n 2, 1) := by decide +kernel
theorem dX6_cancel_61 : decode cX6_cancel 61 = .ok (.bipush 17, 2) := by decide +kernel
theorem dX6_cancel_63 : decode cX6_cancel 63 = .ok (.invokestatic 40, 3) := by decide +kernel
theorem dX6_cancel_66 : decode cX6_cancel 66 = .ok (.dup2, 1) := by decide +kernel
theorem dX6_cancel_67 : decode cX6_cancel 67 = .ok (.laload, 1) := by decide +kernel
theorem dX6_cancel_68 : decode cX6_cancel 68 = .ok (.lconst 1, 1) := by decide +kernel
theorem dX6_cancel_69 : decode cX6_cancel 69 = .ok (.lsub, 1) := by decide +kernel
theorem dX6_cancel_70 : decode cX6_cancel 70 = .ok (.lastore, 1) := by decide +kernel
theorem dX6_cancel_71 : decode cX6_cancel 71 = .ok (.aload_n 0, 1) := by decide +kernel
theorem dX6_cancel_72 : decode cX6_cancel 72 = .ok (.iload_n 2, 1) := by decide +kernel
theorem dX6_cancel_73 : decode cX6_cancel 73 = .ok (.bipush 17, 2) := by decide +kernel
theorem dX6_cancel_75 : decode cX6_cancel 75 = .ok (.invokevirtual 53, 3) := by decide +kernel
theorem dX6_cancel_78 : decode cX6_cancel 78 = .ok (.l2i, 1) := by decide +kernel
theorem dX6_cancel_79 : decode cX6_cancel 79 = .ok (.ireturn, 1) := by decide +kernel
theorem dX6_restTicks_0 : decode cX6_restTicks 0 = .ok (.aload_n 0, 1) := by decide +kernel
theorem dX6_restTicks_1 : decode cX6_restTicks 1 = .ok (.iload_n 1, 1) := by decide +kernel
theorem dX6_restTicks_2 : decode cX6_restTicks 2 = .ok (.iconst 1, 1) := by decide +kernel
theorem dX6_restTicks_3 : decode cX6_restTicks 3 = .ok (.invokevirtual 49, 3) := by decide +kernel
theorem dX6_restTicks_6 : decode cX6_restTicks 6 = .ok (.aload_n 0, 1) := by decide +kernel
theorem dX6_restTicks_7 : decode cX6_restTicks 7 = .ok (.iload_n 1, 1) := by decide +kernel
theorem dX6_restTicks_8 : decode cX6_restTicks 8 = .ok (.iconst 5, 1) := by decide +kernel
theorem dX6_restTicks_9 : decode cX6_restTicks 9 = .ok (.invokevirtual 49, 3) := by decide +kernel
theorem dX6_restTicks_12 : decode cX6_restTicks 12 = .ok (.lsub, 1) := by decide +kernel
theorem dX6_restTicks_13 : decode cX6_restTicks 13 = .ok (.lstore_n 2, 1) := by decide +kernel
theorem dX6_restTicks_14 : decode cX6_restTicks 14 = .ok (.aload_n 0, 1) := by decide +kernel
theorem dX6_restTicks_15 : decode cX6_restTicks 15 = .ok (.aload_n 0, 1) := by decide +kernel
theorem dX6_restTicks_16 : decode cX6_restTicks 16 = .ok (.iload_n 1, 1) := by decide +kernel
theorem dX6_restTicks_17 : decode cX6_restTicks 17 = .ok (.iconst 0, 1) := by decide +kernel
theorem dX6_restTicks_18 : decode cX6_restTicks 18 = .ok (.invokevirtual 49, 3) := by decide +kernel
theorem dX6_restTicks_21 : decode cX6_restTicks 21 = .ok (.l2i, 1) := by decide +kernel
theorem dX6_restTicks_22 : decode cX6_restTicks 22 = .ok (.iconst 2, 1) := by decide +kernel
theorem dX6_restTicks_23 : decode cX6_restTicks 23 = .ok (.invokevirtual 53, 3) := by decide +kernel
theorem dX6_restTicks_26 : decode cX6_restTicks 26 = .ok (.lstore 4, 2) := by decide +kernel
theorem dX6_restTicks_28 : decode cX6_restTicks 28 = .ok (.lload 4, 2) := by decide +kernel
theorem dX6_restTicks_30 : decode cX6_restTicks 30 = .ok (.lconst 0, 1) := by decide +kernel
theorem dX6_restTicks_31 : decode cX6_restTicks 31 = .ok (.lcmp, 1) := by decide +kernel
theorem dX6_restTicks_32 : decode cX6_restTicks 32 = .ok (.ifCond .eq 10, 3) := by decide +kernel
theorem dX6_restTicks_35 : decode cX6_restTicks 35 = .ok (.lload_n 2, 1) := by decide +kernel
theorem dX6_restTicks_36 : decode cX6_restTicks 36 = .ok (.lload 4, 2) := by decide +kernel
theorem dX6_restTicks_38 : decode cX6_restTicks 38 = .ok (.lcmp, 1) := by decide +kernel
theorem dX6_restTicks_39 : decode cX6_restTicks 39 = .ok (.ifCond .gt 14, 3) := by decide +kernel
theorem dX6_restTicks_42 : decode cX6_restTicks 42 = .ok (.aload_n 0, 1) := by decide +kernel
theorem dX6_restTicks_43 : decode cX6_restTicks 43 = .ok (.getfield 7, 3) := by decide +kernel
theorem dX6_restTicks_46 : decode cX6_restTicks 46 = .ok (.iconst 3, 1) := by decide +kernel
theorem dX6_restTicks_47 : decode cX6_restTicks 47 = .ok (.laload, 1) := by decide +kernel
theorem dX6_restTicks_48 : decode cX6_restTicks 48 = .ok (.lload_n 2, 1) := by decide +kernel
theorem dX6_restTicks_49 : decode cX6_restTicks 49 = .ok (.ladd, 1) := by decide +kernel
theorem dX6_restTicks_50 : decode cX6_restTicks 50 = .ok (.goto 21, 3) := by decide +kernel
theorem dX6_restTicks_53 : decode cX6_restTicks 53 = .ok (.lload_n 2, 1) := by decide +kernel
theorem dX6_restTicks_54 : decode cX6_restTicks 54 = .ok (.aload_n 0, 1) := by decide +kernel
theorem dX6_restTicks_55 : decode cX6_restTicks 55 = .ok (.getfield 7, 3) := by decide +kernel
theorem dX6_restTicks_58 : decode cX6_restTicks 58 = .ok (.iconst 3, 1) := by decide +kernel
theorem dX6_restTicks_59 : decode cX6_restTicks 59 = .ok (.laload, 1) := by decide +kernel
theorem dX6_restTicks_60 : decode cX6_restTicks 60 = .ok (.lload_n 2, 1) := by decide +kernel
theorem dX6_restTicks_61 : decode cX6_restTicks 61 = .ok (.lload 4, 2) := by decide +kernel
theorem dX6_restTicks_63 : decode cX6_restTicks 63 = .ok (.ladd, 1) := by decide +kernel
theorem dX6_restTicks_64 : decode cX6_restTicks 64 = .ok (.lconst 1, 1) := by decide +kernel
theorem dX6_restTicks_65 : decode cX6_restTicks 65 = .ok (.lsub, 1) := by decide +kernel
theorem dX6_restTicks_66 : decode cX6_restTicks 66 = .ok (.lload 4, 2) := by decide +kernel
theorem dX6_restTicks_68 : decode cX6_restTicks 68 = .ok (.ldiv, 1) := by decide +kernel
theorem dX6_restTicks_69 : decode cX6_restTicks 69 = .ok (.lmul, 1) := by decide +kernel
theorem dX6_restTicks_70 : decode cX6_restTicks 70 = .ok (.ladd, 1) := by decide +kernel
theorem dX6_restTicks_71 : decode cX6_restTicks 71 = .ok (.lreturn, 1) := by decide +kernel
theorem dX6_isUrgent_0 : decode cX6_isUrgent 0 = .ok (.aload_n 0, 1) := by decide +kernel
theorem dX6_isUrgent_1 : decode cX6_isUrgent 1 = .ok (.getfield 7, 3) := by decide +kernel
theorem dX6_isUrgent_4 : decode cX6_isUrgent 4 = .ok (.bipush 6, 2) := by decide +kernel
theorem dX6_isUrgent_6 : decode cX6_isUrgent 6 = .ok (.laload, 1) := by decide +kernel
theorem dX6_isUrgent_7 : decode cX6_isUrgent 7 = .ok (.lconst 1, 1) := by decide +kernel
theorem dX6_isUrgent_8 : decode cX6_isUrgent 8 = .ok (.lcmp, 1) := by decide +kernel
theorem dX6_isUrgent_9 : decode cX6_isUrgent 9 = .ok (.ifCond .ne 49, 3) := by decide +kernel
theorem dX6_isUrgent_12 : decode cX6_isUrgent 12 = .ok (.aload_n 0, 1) := by decide +kernel
theorem dX6_isUrgent_13 : decode cX6_isUrgent 13 = .ok (.iload_n 1, 1) := by decide +kernel
theorem dX6_isUrgent_14 : decode cX6_isUrgent 14 = .ok (.iconst 3, 1) := by decide +kernel
theorem dX6_isUrgent_15 : decode cX6_isUrgent 15 = .ok (.invokevirtual 49, 3) := by decide +kernel
theorem dX6_isUrgent_18 : decode cX6_isUrgent 18 = .ok (.ldc2_w 34, 3) := by decide +kernel
theorem dX6_isUrgent_21 : decode cX6_isUrgent 21 = .ok (.lcmp, 1) := by decide +kernel
theorem dX6_isUrgent_22 : decode cX6_isUrgent 22 = .ok (.ifCond .eq 36, 3) := by decide +kernel
theorem dX6_isUrgent_25 : decode cX6_isUrgent 25 = .ok (.aload_n 0, 1) := by decide +kernel
theorem dX6_isUrgent_26 : decode cX6_isUrgent 26 = .ok (.getfield 7, 3) := by decide +kernel
theorem dX6_isUrgent_29 : decode cX6_isUrgent 29 = .ok (.iconst 0, 1) := by decide +kernel
theorem dX6_isUrgent_30 : decode cX6_isUrgent 30 = .ok (.laload, 1) := by decide +kernel
theorem dX6_isUrgent_31 : decode cX6_isUrgent 31 = .ok (.aload_n 0, 1) := by decide +kernel
theorem dX6_isUrgent_32 : decode cX6_isUrgent 32 = .ok (.iload_n 1, 1) := by decide +kernel
theorem dX6_isUrgent_33 : decode cX6_isUrgent 33 = .ok (.invokevirtual 99, 3) := by decide +kernel
theorem dX6_isUrgent_36 : decode cX6_isUrgent 36 = .ok (.ladd, 1) := by decide +kernel
theorem dX6_isUrgent_37 : decode cX6_isUrgent 37 = .ok (.aload_n 0, 1) := by decide +kernel
theorem dX6_isUrgent_38 : decode cX6_isUrgent 38 = .ok (.getfield 7, 3) := by decide +kernel
theorem dX6_isUrgent_41 : decode cX6_isUrgent 41 = .ok (.iconst 5, 1) := by decide +kernel
theorem dX6_isUrgent_42 : decode cX6_isUrgent 42 = .ok (.laload, 1) := by decide +kernel
theorem dX6_isUrgent_43 : decode cX6_isUrgent 43 = .ok (.ladd, 1) := by decide +kernel
theorem dX6_isUrgent_44 : decode cX6_isUrgent 44 = .ok (.aload_n 0, 1) := by decide +kernel
theorem dX6_isUrgent_45 : decode cX6_isUrgent 45 = .ok (.iload_n 1, 1) := by decide +kernel
theorem dX6_isUrgent_46 : decode cX6_isUrgent 46 = .ok (.iconst 3, 1) := by decide +kernel
theorem dX6_isUrgent_47 : decode cX6_isUrgent 47 = .ok (.invokevirtual 49, 3) := by decide +kernel
theorem dX6_isUrgent_50 : decode cX6_isUrgent 50 = .ok (.lcmp, 1) := by decide +kernel
theorem dX6_isUrgent_51 : decode cX6_isUrgent 51 = .ok (.ifCond .lt 7, 3) := by decide +kernel
theorem dX6_isUrgent_54 : decode cX6_isUrgent 54 = .ok (.iconst 1, 1) := by decide +kernel
theorem dX6_isUrgent_55 : decode cX6_isUrgent 55 = .ok (.goto 4, 3) := by decide +kernel
theorem dX6_isUrgent_58 : decode cX6_isUrgent 58 = .ok (.iconst 0, 1) := by decide +kernel
theorem dX6_isUrgent_59 : decode cX6_isUrgent 59 = .ok (.ireturn, 1) := by decide +kernel
theorem dX6_packet_0 : decode cX6_packet 0 = .ok (.aload_n 0, 1) := by decide +kernel
theorem dX6_packet_1 : decode cX6_packet 1 = .ok (.iload_n 1, 1) := by decide +kernel
theorem dX6_packet_2 : decode cX6_packet 2 = .ok (.invokevirtual 94, 3) := by decide +kernel
theorem dX6_packet_5 : decode cX6_packet 5 = .ok (.ifCond .ne 5, 3) := by decide +kernel
theorem dX6_packet_8 : decode cX6_packet 8 = .ok (.iconst (-1), 1) := by decide +kernel
theorem dX6_packet_9 : decode cX6_packet 9 = .ok (.ireturn, 1) := by decide +kernel
theorem dX6_packet_10 : decode cX6_packet 10 = .ok (.iload_n 2, 1) := by decide +kernel
theorem dX6_packet_11 : decode cX6_packet 11 = .ok (.i2l, 1) := by decide +kernel
theorem dX6_packet_12 : decode cX6_packet 12 = .ok (.lconst 0, 1) := by decide +kernel
theorem dX6_packet_13 : decode cX6_packet 13 = .ok (.ldc2_w 103, 3) := by decide +kernel
theorem dX6_packet_16 : decode cX6_packet 16 = .ok (.invokestatic 36, 3) := by decide +kernel
theorem dX6_packet_19 : decode cX6_packet 19 = .ok (.ifCond .ne 6, 3) := by decide +kernel
theorem dX6_packet_22 : decode cX6_packet 22 = .ok (.bipush (-2), 2) := by decide +kernel
theorem dX6_packet_24 : decode cX6_packet 24 = .ok (.ireturn, 1) := by decide +kernel
theorem dX6_packet_25 : decode cX6_packet 25 = .ok (.iload_n 2, 1) := by decide +kernel
theorem dX6_packet_26 : decode cX6_packet 26 = .ok (.bipush 9, 2) := by decide +kernel
theorem dX6_packet_28 : decode cX6_packet 28 = .ok (.if_icmp .ge 13, 3) := by decide +kernel
theorem dX6_packet_31 : decode cX6_packet 31 = .ok (.aload_n 0, 1) := by decide +kernel
theorem dX6_packet_32 : decode cX6_packet 32 = .ok (.iload_n 1, 1) := by decide +kernel
theorem dX6_packet_33 : decode cX6_packet 33 = .ok (.iload_n 2, 1) := by decide +kernel
theorem dX6_packet_34 : decode cX6_packet 34 = .ok (.invokevirtual 49, 3) := by decide +kernel
theorem dX6_packet_37 : decode cX6_packet 37 = .ok (.l2i, 1) := by decide +kernel
theorem dX6_packet_38 : decode cX6_packet 38 = .ok (.goto 24, 3) := by decide +kernel
theorem dX6_packet_41 : decode cX6_packet 41 = .ok (.aload_n 0, 1) := by decide +kernel
theorem dX6_packet_42 : decode cX6_packet 42 = .ok (.iload_n 1, 1) := by decide +kernel
theorem dX6_packet_43 : decode cX6_packet 43 = .ok (.invokevirtual 60, 3) := by decide +kernel
theorem dX6_packet_46 : decode cX6_packet 46 = .ok (.ifCond .eq 15, 3) := by decide +kernel
theorem dX6_packet_49 : decode cX6_packet 49 = .ok (.aload_n 0, 1) := by decide +kernel
theorem dX6_packet_50 : decode cX6_packet 50 = .ok (.iload_n 1, 1) := by decide +kernel
theorem dX6_packet_51 : decode cX6_packet 51 = .ok (.invokevirtual 105, 3) := by decide +kernel
theorem dX6_packet_54 : decode cX6_packet 54 = .ok (.ifCond .eq 7, 3) := by decide +kernel
theorem dX6_packet_57 : decode cX6_packet 57 = .ok (.iconst 1, 1) := by decide +kernel
theorem dX6_packet_58 : decode cX6_packet 58 = .ok (.goto 4, 3) := by decide +kernel
theorem dX6_packet_61 : decode cX6_packet 61 = .ok (.iconst 0, 1) := by decide +kernel
theorem dX6_packet_62 : decode cX6_packet 62 = .ok (.ireturn, 1) := by decide +kernel
theorem dX6_start_0 : decode cX6_start 0 = .ok (.aload_n 0, 1) := by decide +kernel
theorem dX6_start_1 : decode cX6_start 1 = .ok (.iload_n 1, 1) := by decide +kernel
theorem dX6_start_2 : decode cX6_start 2 = .ok (.invokevirtual 94, 3) := by decide +kernel
theorem dX6_start_5 : decode cX6_start 5 = .ok (.ifCond .eq 13, 3) := by decide +kernel
theorem dX6_start_8 : decode cX6_start 8 = .ok (.aload_n 0, 1) := by decide +kernel
theorem dX6_start_9 : decode cX6_start 9 = .ok (.iload_n 1, 1) := by decide +kernel
theorem dX6_start_10 : decode cX6_start 10 = .ok (.bipush 9, 2) := by decide +kernel
theorem dX6_start_12 : decode cX6_start 12 = .ok (.invokevirtual 49, 3) := by decide +kernel
theorem dX6_start_15 : decode cX6_start 15 = .ok (.goto 6, 3) := by decide +kernel
theorem dX6_start_18 : decode cX6_start 18 = .ok (.ldc2_w 108, 3) := by decide +kernel
theorem dX6_start_21 : decode cX6_start 21 = .ok (.lreturn, 1) := by decide +kernel
theorem dX6_put_0 : decode cX6_put 0 = .ok (.iconst 0, 1) := by decide +kernel
theorem dX6_put_1 : decode cX6_put 1 = .ok (.istore_n 3, 1) := by decide +kernel
theorem dX6_put_2 : decode cX6_put 2 = .ok (.lload_n 1, 1) := by decide +kernel
theorem dX6_put_3 : decode cX6_put 3 = .ok (.lstore 4, 2) := by decide +kernel
theorem dX6_put_5 : decode cX6_put 5 = .ok (.iload_n 3, 1) := by decide +kernel
theorem dX6_put_6 : decode cX6_put 6 = .ok (.bipush 8, 2) := by decide +kernel
theorem dX6_put_8 : decode cX6_put 8 = .ok (.if_icmp .ge 48, 3) := by decide +kernel
theorem dX6_put_11 : decode cX6_put 11 = .ok (.lload 4, 2) := by decide +kernel
theorem dX6_put_13 : decode cX6_put 13 = .ok (.ldc2_w 110, 3) := by decide +kernel
theorem dX6_put_16 : decode cX6_put 16 = .ok (.land, 1) := by decide +kernel
theorem dX6_put_17 : decode cX6_put 17 = .ok (.lconst 0, 1) := by decide +kernel
theorem dX6_put_18 : decode cX6_put 18 = .ok (.lcmp, 1) := by decide +kernel
theorem dX6_put_19 : decode cX6_put 19 = .ok (.ifCond .eq 37, 3) := by decide +kernel
theorem dX6_put_22 : decode cX6_put 22 = .ok (.lload 4, 2) := by decide +kernel
theorem dX6_put_24 : decode cX6_put 24 = .ok (.ldc2_w 110, 3) := by decide +kernel
theorem dX6_put_27 : decode cX6_put 27 = .ok (.land, 1) := by decide +kernel
theorem dX6_put_28 : decode cX6_put 28 = .ok (.ldc2_w 112, 3) := by decide +kernel
theorem dX6_put_31 : decode cX6_put 31 = .ok (.ldc2_w 114, 3) := by decide +kernel
theorem dX6_put_34 : decode cX6_put 34 = .ok (.invokestatic 36, 3) := by decide +kernel
theorem dX6_put_37 : decode cX6_put 37 = .ok (.ifCond .ne 6, 3) := by decide +kernel
theorem dX6_put_40 : decode cX6_put 40 = .ok (.bipush (-2), 2) := by decide +kernel
theorem dX6_put_42 : decode cX6_put 42 = .ok (.ireturn, 1) := by decide +kernel
theorem dX6_put_43 : decode cX6_put 43 = .ok (.iinc 3 1, 3) := by decide +kernel
theorem dX6_put_46 : decode cX6_put 46 = .ok (.lload 4, 2) := by decide +kernel
theorem dX6_put_48 : decode cX6_put 48 = .ok (.bipush 8, 2) := by decide +kernel
theorem dX6_put_50 : decode cX6_put 50 = .ok (.lushr, 1) := by decide +kernel
theorem dX6_put_51 : decode cX6_put 51 = .ok (.lstore 4, 2) := by decide +kernel
theorem dX6_put_53 : decode cX6_put 53 = .ok (.goto (-48), 3) := by decide +kernel
theorem dX6_put_56 : decode cX6_put 56 = .ok (.iload_n 3, 1) := by decide +kernel
theorem dX6_put_57 : decode cX6_put 57 = .ok (.ifCond .eq 10, 3) := by decide +kernel
theorem dX6_put_60 : decode cX6_put 60 = .ok (.lload 4, 2) := by decide +kernel
theorem dX6_put_62 : decode cX6_put 62 = .ok (.lconst 0, 1) := by decide +kernel
theorem dX6_put_63 : decode cX6_put 63 = .ok (.lcmp, 1) := by decide +kernel
theorem dX6_put_64 : decode cX6_put 64 = .ok (.ifCond .eq 6, 3) := by decide +kernel
theorem dX6_put_67 : decode cX6_put 67 = .ok (.bipush (-2), 2) := by decide +kernel
theorem dX6_put_69 : decode cX6_put 69 = .ok (.ireturn, 1) := by decide +kernel
theorem dX6_put_70 : decode cX6_put 70 = .ok (.aload_n 0, 1) := by decide +kernel
theorem dX6_put_71 : decode cX6_put 71 = .ok (.getfield 7, 3) := by decide +kernel
theorem dX6_put_74 : decode cX6_put 74 = .ok (.sipush 1825, 3) := by decide +kernel
theorem dX6_put_77 : decode cX6_put 77 = .ok (.laload, 1) := by decide +kernel
theorem dX6_put_78 : decode cX6_put 78 = .ok (.iload_n 3, 1) := by decide +kernel
theorem dX6_put_79 : decode cX6_put 79 = .ok (.i2l, 1) := by decide +kernel
theorem dX6_put_80 : decode cX6_put 80 = .ok (.ladd, 1) := by decide +kernel
theorem dX6_put_81 : decode cX6_put 81 = .ok (.ldc2_w 116, 3) := by decide +kernel
theorem dX6_put_84 : decode cX6_put 84 = .ok (.lcmp, 1) := by decide +kernel
theorem dX6_put_85 : decode cX6_put 85 = .ok (.ifCond .le 6, 3) := by decide +kernel
theorem dX6_put_88 : decode cX6_put 88 = .ok (.bipush (-4), 2) := by decide +kernel
theorem dX6_put_90 : decode cX6_put 90 = .ok (.ireturn, 1) := by decide +kernel
theorem dX6_put_91 : decode cX6_put 91 = .ok (.iconst 0, 1) := by decide +kernel
theorem dX6_put_92 : decode cX6_put 92 = .ok (.istore 6, 2) := by decide +kernel
theorem dX6_put_94 : decode cX6_put 94 = .ok (.iload 6, 2) := by decide +kernel
theorem dX6_put_96 : decode cX6_put 96 = .ok (.iload_n 3, 1) := by decide +kernel
theorem dX6_put_97 : decode cX6_put 97 = .ok (.if_icmp .ge 45, 3) := by decide +kernel
theorem dX6_put_100 : decode cX6_put 100 = .ok (.aload_n 0, 1) := by decide +kernel
theorem dX6_put_101 : decode cX6_put 101 = .ok (.getfield 7, 3) := by decide +kernel
theorem dX6_put_104 : decode cX6_put 104 = .ok (.sipush 1745, 3) := by decide +kernel
theorem dX6_put_107 : decode cX6_put 107 = .ok (.aload_n 0, 1) := by decide +kernel
theorem dX6_put_108 : decode cX6_put 108 = .ok (.getfield 7, 3) := by decide +kernel
theorem dX6_put_111 : decode cX6_put 111 = .ok (.sipush 1825, 3) := by decide +kernel
theorem dX6_put_114 : decode cX6_put 114 = .ok (.laload, 1) := by decide +kernel
theorem dX6_put_115 : decode cX6_put 115 = .ok (.l2i, 1) := by decide +kernel
theorem dX6_put_116 : decode cX6_put 116 = .ok (.iadd, 1) := by decide +kernel
theorem dX6_put_117 : decode cX6_put 117 = .ok (.iload 6, 2) := by decide +kernel
theorem dX6_put_119 : decode cX6_put 119 = .ok (.iadd, 1) := by decide +kernel
theorem dX6_put_120 : decode cX6_put 120 = .ok (.lload_n 1, 1) := by decide +kernel
theorem dX6_put_121 : decode cX6_put 121 = .ok (.bipush 8, 2) := by decide +kernel
theorem dX6_put_123 : decode cX6_put 123 = .ok (.iload_n 3, 1) := by decide +kernel
theorem dX6_put_124 : decode cX6_put 124 = .ok (.iconst 1, 1) := by decide +kernel
theorem dX6_put_125 : decode cX6_put 125 = .ok (.isub, 1) := by decide +kernel
theorem dX6_put_126 : decode cX6_put 126 = .ok (.iload 6, 2) := by decide +kernel
theorem dX6_put_128 : decode cX6_put 128 = .ok (.isub, 1) := by decide +kernel
theorem dX6_put_129 : decode cX6_put 129 = .ok (.imul, 1) := by decide +kernel
theorem dX6_put_130 : decode cX6_put 130 = .ok (.lshr, 1) := by decide +kernel
theorem dX6_put_131 : decode cX6_put 131 = .ok (.ldc2_w 110, 3) := by decide +kernel
theorem dX6_put_134 : decode cX6_put 134 = .ok (.land, 1) := by decide +kernel
theorem dX6_put_135 : decode cX6_put 135 = .ok (.lastore, 1) := by decide +kernel
theorem dX6_put_136 : decode cX6_put 136 = .ok (.iinc 6 1, 3) := by decide +kernel
theorem dX6_put_139 : decode cX6_put 139 = .ok (.goto (-45), 3) := by decide +kernel
theorem dX6_put_142 : decode cX6_put 142 = .ok (.aload_n 0, 1) := by decide +kernel
theorem dX6_put_143 : decode cX6_put 143 = .ok (.getfield 7, 3) := by decide +kernel
theorem dX6_put_146 : decode cX6_put 146 = .ok (.sipush 1825, 3) := by decide +kernel
theorem dX6_put_149 : decode cX6_put 149 = .ok (.dup2, 1) := by decide +kernel
theorem dX6_put_150 : decode cX6_put 150 = .ok (.laload, 1) := by decide +kernel
theorem dX6_put_151 : decode cX6_put 151 = .ok (.iload_n 3, 1) := by decide +kernel
theorem dX6_put_152 : decode cX6_put 152 = .ok (.i2l, 1) := by decide +kernel
theorem dX6_put_153 : decode cX6_put 153 = .ok (.ladd, 1) := by decide +kernel
theorem dX6_put_154 : decode cX6_put 154 = .ok (.lastore, 1) := by decide +kernel
theorem dX6_put_155 : decode cX6_put 155 = .ok (.aload_n 0, 1) := by decide +kernel
theorem dX6_put_156 : decode cX6_put 156 = .ok (.getfield 7, 3) := by decide +kernel
theorem dX6_put_159 : decode cX6_put 159 = .ok (.sipush 1825, 3) := by decide +kernel
theorem dX6_put_162 : decode cX6_put 162 = .ok (.laload, 1) := by decide +kernel
theorem dX6_put_163 : decode cX6_put 163 = .ok (.l2i, 1) := by decide +kernel
theorem dX6_put_164 : decode cX6_put 164 = .ok (.ireturn, 1) := by decide +kernel
theorem dX6_wipe_0 : decode cX6_wipe 0 = .ok (.aload_n 0, 1) := by decide +kernel
theorem dX6_wipe_1 : decode cX6_wipe 1 = .ok (.getfield 7, 3) := by decide +kernel
theorem dX6_wipe_4 : decode cX6_wipe 4 = .ok (.sipush 1825, 3) := by decide +kernel
theorem dX6_wipe_7 : decode cX6_wipe 7 = .ok (.laload, 1) := by decide +kernel
theorem dX6_wipe_8 : decode cX6_wipe 8 = .ok (.l2i, 1) := by decide +kernel
theorem dX6_wipe_9 : decode cX6_wipe 9 = .ok (.istore_n 1, 1) := by decide +kernel
theorem dX6_wipe_10 : decode cX6_wipe 10 = .ok (.aload_n 0, 1) := by decide +kernel
theorem dX6_wipe_11 : decode cX6_wipe 11 = .ok (.getfield 7, 3) := by decide +kernel
theorem dX6_wipe_14 : decode cX6_wipe 14 = .ok (.sipush 1825, 3) := by decide +kernel
theorem dX6_wipe_17 : decode cX6_wipe 17 = .ok (.lconst 0, 1) := by decide +kernel
theorem dX6_wipe_18 : decode cX6_wipe 18 = .ok (.lastore, 1) := by decide +kernel
theorem dX6_wipe_19 : decode cX6_wipe 19 = .ok (.iload_n 1, 1) := by decide +kernel
theorem dX6_wipe_20 : decode cX6_wipe 20 = .ok (.ireturn, 1) := by decide +kernel
theorem dX6_next_0 : decode cX6_next 0 = .ok (.aload_n 0, 1) := by decide +kernel
theorem dX6_next_1 : decode cX6_next 1 = .ok (.getfield 118, 3) := by decide +kernel
theorem dX6_next_4 : decode cX6_next 4 = .ok (.i2l, 1) := by decide +kernel
theorem dX6_next_5 : decode cX6_next 5 = .ok (.aload_n 0, 1) := by decide +kernel
theorem dX6_next_6 : decode cX6_next 6 = .ok (.getfield 7, 3) := by decide +kernel
theorem dX6_next_9 : decode cX6_next 9 = .ok (.sipush 1825, 3) := by decide +kernel
theorem dX6_next_12 : decode cX6_next 12 = .ok (.laload, 1) := by decide +kernel
theorem dX6_next_13 : decode cX6_next 13 = .ok (.lcmp, 1) := by decide +kernel
theorem dX6_next_14 : decode cX6_next 14 = .ok (.ifCond .ge 20, 3) := by decide +kernel
theorem dX6_next_17 : decode cX6_next 17 = .ok (.aload_n 0, 1) := by decide +kernel
theorem dX6_next_18 : decode cX6_next 18 = .ok (.getfield 7, 3) := by decide +kernel
theorem dX6_next_21 : decode cX6_next 21 = .ok (.sipush 1745, 3) := by decide +kernel
theorem dX6_next_24 : decode cX6_next 24 = .ok (.aload_n 0, 1) := by decide +kernel
theorem dX6_next_25 : decode cX6_next 25 = .ok (.getfield 118, 3) := by decide +kernel
theorem dX6_next_28 : decode cX6_next 28 = .ok (.iadd, 1) := by decide +kernel
theorem dX6_next_29 : decode cX6_next 29 = .ok (.laload, 1) := by decide +kernel
theorem dX6_next_30 : decode cX6_next 30 = .ok (.l2i, 1) := by decide +kernel
theorem dX6_next_31 : decode cX6_next 31 = .ok (.goto 4, 3) := by decide +kernel
theorem dX6_next_34 : decode cX6_next 34 = .ok (.iconst 0, 1) := by decide +kernel
theorem dX6_next_35 : decode cX6_next 35 = .ok (.ireturn, 1) := by decide +kernel
theorem dX6_readNumber_0 : decode cX6_readNumber 0 = .ok (.aload_n 0, 1) := by decide +kernel
theorem dX6_readNumber_1 : decode cX6_readNumber 1 = .ok (.invokevirtual 122, 3) := by decide +kernel
theorem dX6_readNumber_4 : decode cX6_readNumber 4 = .ok (.i2l, 1) := by decide +kernel
theorem dX6_readNumber_5 : decode cX6_readNumber 5 = .ok (.ldc2_w 125, 3) := by decide +kernel
theorem dX6_readNumber_8 : decode cX6_readNumber 8 = .ok (.ldc2_w 127, 3) := by decide +kernel
theorem dX6_readNumber_11 : decode cX6_readNumber 11 = .ok (.invokestatic 36, 3) := by decide +kernel
theorem dX6_readNumber_14 : decode cX6_readNumber 14 = .ok (.ifCond .ne 10, 3) := by decide +kernel
theorem dX6_readNumber_17 : decode cX6_readNumber 17 = .ok (.aload_n 0, 1) := by decide +kernel
theorem dX6_readNumber_18 : decode cX6_readNumber 18 = .ok (.iconst 1, 1) := by decide +kernel
theorem dX6_readNumber_19 : decode cX6_readNumber 19 = .ok (.putfield 129, 3) := by decide +kernel
theorem dX6_readNumber_22 : decode cX6_readNumber 22 = .ok (.iconst 0, 1) := by decide +kernel
theorem dX6_readNumber_23 : decode cX6_readNumber 23 = .ok (.ireturn, 1) := by decide +kernel
theorem dX6_readNumber_24 : decode cX6_readNumber 24 = .ok (.iconst 0, 1) := by decide +kernel
theorem dX6_readNumber_25 : decode cX6_readNumber 25 = .ok (.istore_n 2, 1) := by decide +kernel
theorem dX6_readNumber_26 : decode cX6_readNumber 26 = .ok (.aload_n 0, 1) := by decide +kernel
theorem dX6_readNumber_27 : decode cX6_readNumber 27 = .ok (.invokevirtual 122, 3) := by decide +kernel
theorem dX6_readNumber_30 : decode cX6_readNumber 30 = .ok (.i2l, 1) := by decide +kernel
theorem dX6_readNumber_31 : decode cX6_readNumber 31 = .ok (.ldc2_w 133, 3) := by decide +kernel
theorem dX6_readNumber_34 : decode cX6_readNumber 34 = .ok (.ldc2_w 127, 3) := by decide +kernel
theorem dX6_readNumber_37 : decode cX6_readNumber 37 = .ok (.invokestatic 36, 3) := by decide +kernel
theorem dX6_readNumber_40 : decode cX6_readNumber 40 = .ok (.ifCond .eq 83, 3) := by decide +kernel
theorem dX6_readNumber_43 : decode cX6_readNumber 43 = .ok (.aload_n 0, 1) := by decide +kernel
theorem dX6_readNumber_44 : decode cX6_readNumber 44 = .ok (.getfield 129, 3) := by decide +kernel
theorem dX6_readNumber_47 : decode cX6_readNumber 47 = .ok (.ifCond .ne 76, 3) := by decide +kernel
theorem dX6_readNumber_50 : decode cX6_readNumber 50 = .ok (.aload_n 0, 1) := by decide +kernel
theorem dX6_readNumber_51 : decode cX6_readNumber 51 = .ok (.bipush 10, 2) := by decide +kernel
theorem dX6_readNumber_53 : decode cX6_readNumber 53 = .ok (.iload_n 2, 1) := by decide +kernel
theorem dX6_readNumber_54 : decode cX6_readNumber 54 = .ok (.imul, 1) := by decide +kernel
theorem dX6_readNumber_55 : decode cX6_readNumber 55 = .ok (.aload_n 0, 1) := by decide +kernel
theorem dX6_readNumber_56 : decode cX6_readNumber 56 = .ok (.invokevirtual 122, 3) := by decide +kernel
theorem dX6_readNumber_59 : decode cX6_readNumber 59 = .ok (.iadd, 1) := by decide +kernel
theorem dX6_readNumber_60 : decode cX6_readNumber 60 = .ok (.bipush 48, 2) := by decide +kernel
theorem dX6_readNumber_62 : decode cX6_readNumber 62 = .ok (.isub, 1) := by decide +kernel
theorem dX6_readNumber_63 : decode cX6_readNumber 63 = .ok (.iload_n 1, 1) := by decide +kernel
theorem dX6_readNumber_64 : decode cX6_readNumber 64 = .ok (.if_icmp .le 7, 3) := by decide +kernel
theorem dX6_readNumber_67 : decode cX6_readNumber 67 = .ok (.iconst 1, 1) := by decide +kernel
theorem dX6_readNumber_68 : decode cX6_readNumber 68 = .ok (.goto 4, 3) := by decide +kernel
theorem dX6_readNumber_71 : decode cX6_readNumber 71 = .ok (.iconst 0, 1) := by decide +kernel
theorem dX6_readNumber_72 : decode cX6_readNumber 72 = .ok (.putfield 129, 3) := by decide +kernel
theorem dX6_readNumber_75 : decode cX6_readNumber 75 = .ok (.aload_n 0, 1) := by decide +kernel
theorem dX6_readNumber_76 : decode cX6_readNumber 76 = .ok (.getfield 129, 3) := by decide +kernel
theorem dX6_readNumber_79 : decode cX6_readNumber 79 = .ok (.ifCond .eq 7, 3) := by decide +kernel
theorem dX6_readNumber_82 : decode cX6_readNumber 82 = .ok (.iload_n 2, 1) := by decide +kernel
theorem dX6_readNumber_83 : decode cX6_readNumber 83 = .ok (.goto 15, 3) := by decide +kernel
theorem dX6_readNumber_86 : decode cX6_readNumber 86 = .ok (.bipush 10, 2) := by decide +kernel
theorem dX6_readNumber_88 : decode cX6_readNumber 88 = .ok (.iload_n 2, 1) := by decide +kernel
theorem dX6_readNumber_89 : decode cX6_readNumber 89 = .ok (.imul, 1) := by decide +kernel
theorem dX6_readNumber_90 : decode cX6_readNumber 90 = .ok (.aload_n 0, 1) := by decide +kernel
theorem dX6_readNumber_91 : decode cX6_readNumber 91 = .ok (.invokevirtual 122, 3) := by decide +kernel
theorem dX6_readNumber_94 : decode cX6_readNumber 94 = .ok (.iadd, 1) := by decide +kernel
theorem dX6_readNumber_95 : decode cX6_readNumber 95 = .ok (.bipush 48, 2) := by decide +kernel
theorem dX6_readNumber_97 : decode cX6_readNumber 97 = .ok (.isub, 1) := by decide +kernel
theorem dX6_readNumber_98 : decode cX6_readNumber 98 = .ok (.istore_n 2, 1) := by decide +kernel
theorem dX6_readNumber_99 : decode cX6_readNumber 99 = .ok (.aload_n 0, 1) := by decide +kernel
theorem dX6_readNumber_100 : decode cX6_readNumber 100 = .ok (.dup, 1) := by decide +kernel
theorem dX6_readNumber_101 : decode cX6_readNumber 101 = .ok (.getfield 118, 3) := by decide +kernel
theorem dX6_readNumber_104 : decode cX6_readNumber 104 = .ok (.aload_n 0, 1) := by decide +kernel
theorem dX6_readNumber_105 : decode cX6_readNumber 105 = .ok (.getfield 129, 3) := by decide +kernel
theorem dX6_readNumber_108 : decode cX6_readNumber 108 = .ok (.ifCond .eq 7, 3) := by decide +kernel
theorem dX6_readNumber_111 : decode cX6_readNumber 111 = .ok (.iconst 0, 1) := by decide +kernel
theorem dX6_readNumber_112 : decode cX6_readNumber 112 = .ok (.goto 4, 3) := by decide +kernel
theorem dX6_readNumber_115 : decode cX6_readNumber 115 = .ok (.iconst 1, 1) := by decide +kernel
theorem dX6_readNumber_116 : decode cX6_readNumber 116 = .ok (.iadd, 1) := by decide +kernel
theorem dX6_readNumber_117 : decode cX6_readNumber 117 = .ok (.putfield 118, 3) := by decide +kernel
theorem dX6_readNumber_120 : decode cX6_readNumber 120 = .ok (.goto (-94), 3) := by decide +kernel
theorem dX6_readNumber_123 : decode cX6_readNumber 123 = .ok (.iload_n 2, 1) := by decide +kernel
theorem dX6_readNumber_124 : decode cX6_readNumber 124 = .ok (.ireturn, 1) := by decide +kernel
theorem dX6_readArrival_0 : decode cX6_readArrival 0 = .ok (.iconst 4, 1) := by decide +kernel
theorem dX6_readArrival_1 : decode cX6_readArrival 1 = .ok (.aload_n 0, 1) := by decide +kernel
theorem dX6_readArrival_2 : decode cX6_readArrival 2 = .ok (.getfield 135, 3) := by decide +kernel
theorem dX6_readArrival_5 : decode cX6_readArrival 5 = .ok (.imul, 1) := by decide +kernel
theorem dX6_readArrival_6 : decode cX6_readArrival 6 = .ok (.istore_n 1, 1) := by decide +kernel
theorem dX6_readArrival_7 : decode cX6_readArrival 7 = .ok (.aload_n 0, 1) := by decide +kernel
theorem dX6_readArrival_8 : decode cX6_readArrival 8 = .ok (.getfield 23, 3) := by decide +kernel
theorem dX6_readArrival_11 : decode cX6_readArrival 11 = .ok (.iload_n 1, 1) := by decide +kernel
theorem dX6_readArrival_12 : decode cX6_readArrival 12 = .ok (.aload_n 0, 1) := by decide +kernel
theorem dX6_readArrival_13 : decode cX6_readArrival 13 = .ok (.invokevirtual 122, 3) := by decide +kernel
theorem dX6_readArrival_16 : decode cX6_readArrival 16 = .ok (.bipush 97, 2) := by decide +kernel
theorem dX6_readArrival_18 : decode cX6_readArrival 18 = .ok (.isub, 1) := by decide +kernel
theorem dX6_readArrival_19 : decode cX6_readArrival 19 = .ok (.iastore, 1) := by decide +kernel
theorem dX6_readArrival_20 : decode cX6_readArrival 20 = .ok (.aload_n 0, 1) := by decide +kernel
theorem dX6_readArrival_21 : decode cX6_readArrival 21 = .ok (.getfield 23, 3) := by decide +kernel
theorem dX6_readArrival_24 : decode cX6_readArrival 24 = .ok (.iload_n 1, 1) := by decide +kernel
theorem dX6_readArrival_25 : decode cX6_readArrival 25 = .ok (.iconst 2, 1) := by decide +kernel
theorem dX6_readArrival_26 : decode cX6_readArrival 26 = .ok (.iadd, 1) := by decide +kernel
theorem dX6_readArrival_27 : decode cX6_readArrival 27 = .ok (.iconst 0, 1) := by decide +kernel
theorem dX6_readArrival_28 : decode cX6_readArrival 28 = .ok (.iastore, 1) := by decide +kernel
theorem dX6_readArrival_29 : decode cX6_readArrival 29 = .ok (.aload_n 0, 1) := by decide +kernel
theorem dX6_readArrival_30 : decode cX6_readArrival 30 = .ok (.getfield 23, 3) := by decide +kernel
theorem dX6_readArrival_33 : decode cX6_readArrival 33 = .ok (.iload_n 1, 1) := by decide +kernel
theorem dX6_readArrival_34 : decode cX6_readArrival 34 = .ok (.iconst 3, 1) := by decide +kernel
theorem dX6_readArrival_35 : decode cX6_readArrival 35 = .ok (.iadd, 1) := by decide +kernel
theorem dX6_readArrival_36 : decode cX6_readArrival 36 = .ok (.iconst 1, 1) := by decide +kernel
theorem dX6_readArrival_37 : decode cX6_readArrival 37 = .ok (.iastore, 1) := by decide +kernel
theorem dX6_readArrival_38 : decode cX6_readArrival 38 = .ok (.aload_n 0, 1) := by decide +kernel
theorem dX6_readArrival_39 : decode cX6_readArrival 39 = .ok (.aload_n 0, 1) := by decide +kernel
theorem dX6_readArrival_40 : decode cX6_readArrival 40 = .ok (.invokevirtual 122, 3) := by decide +kernel
theorem dX6_readArrival_43 : decode cX6_readArrival 43 = .ok (.i2l, 1) := by decide +kernel
theorem dX6_readArrival_44 : decode cX6_readArrival 44 = .ok (.ldc2_w 138, 3) := by decide +kernel
theorem dX6_readArrival_47 : decode cX6_readArrival 47 = .ok (.ldc2_w 140, 3) := by decide +kernel
theorem dX6_readArrival_50 : decode cX6_readArrival 50 = .ok (.invokestatic 36, 3) := by decide +kernel
theorem dX6_readArrival_53 : decode cX6_readArrival 53 = .ok (.ifCond .ne 7, 3) := by decide +kernel
theorem dX6_readArrival_56 : decode cX6_readArrival 56 = .ok (.iconst 1, 1) := by decide +kernel
theorem dX6_readArrival_57 : decode cX6_readArrival 57 = .ok (.goto 4, 3) := by decide +kernel
theorem dX6_readArrival_60 : decode cX6_readArrival 60 = .ok (.iconst 0, 1) := by decide +kernel
theorem dX6_readArrival_61 : decode cX6_readArrival 61 = .ok (.putfield 129, 3) := by decide +kernel
theorem dX6_readArrival_64 : decode cX6_readArrival 64 = .ok (.aload_n 0, 1) := by decide +kernel
theorem dX6_readArrival_65 : decode cX6_readArrival 65 = .ok (.getfield 129, 3) := by decide +kernel
theorem dX6_readArrival_68 : decode cX6_readArrival 68 = .ok (.ifCond .eq 4, 3) := by decide +kernel
theorem dX6_readArrival_71 : decode cX6_readArrival 71 = .ok (.return_, 1) := by decide +kernel
theorem dX6_readArrival_72 : decode cX6_readArrival 72 = .ok (.aload_n 0, 1) := by decide +kernel
theorem dX6_readArrival_73 : decode cX6_readArrival 73 = .ok (.dup, 1) := by decide +kernel
theorem dX6_readArrival_74 : decode cX6_readArrival 74 = .ok (.getfield 118, 3) := by decide +kernel
theorem dX6_readArrival_77 : decode cX6_readArrival 77 = .ok (.iconst 1, 1) := by decide +kernel
theorem dX6_readArrival_78 : decode cX6_readArrival 78 = .ok (.iadd, 1) := by decide +kernel
theorem dX6_readArrival_79 : decode cX6_readArrival 79 = .ok (.putfield 118, 3) := by decide +kernel
theorem dX6_readArrival_82 : decode cX6_readArrival 82 = .ok (.aload_n 0, 1) := by decide +kernel
theorem dX6_readArrival_83 : decode cX6_readArrival 83 = .ok (.getfield 23, 3) := by decide +kernel
theorem dX6_readArrival_86 : decode cX6_readArrival 86 = .ok (.iload_n 1, 1) := by decide +kernel
theorem dX6_readArrival_87 : decode cX6_readArrival 87 = .ok (.iconst 1, 1) := by decide +kernel
theorem dX6_readArrival_88 : decode cX6_readArrival 88 = .ok (.iadd, 1) := by decide +kernel
theorem dX6_readArrival_89 : decode cX6_readArrival 89 = .ok (.aload_n 0, 1) := by decide +kernel
theorem dX6_readArrival_90 : decode cX6_readArrival 90 = .ok (.sipush 2000, 3) := by decide +kernel
theorem dX6_readArrival_93 : decode cX6_readArrival 93 = .ok (.invokevirtual 142, 3) := by decide +kernel
theorem dX6_readArrival_96 : decode cX6_readArrival 96 = .ok (.iastore, 1) := by decide +kernel
theorem dX6_readArrival_97 : decode cX6_readArrival 97 = .ok (.aload_n 0, 1) := by decide +kernel
theorem dX6_readArrival_98 : decode cX6_readArrival 98 = .ok (.getfield 129, 3) := by decide +kernel
theorem dX6_readArrival_101 : decode cX6_readArrival 101 = .ok (.ifCond .ne 37, 3) := by decide +kernel
theorem dX6_readArrival_104 : decode cX6_readArrival 104 = .ok (.aload_n 0, 1) := by decide +kernel
theorem dX6_readArrival_105 : decode cX6_readArrival 105 = .ok (.invokevirtual 122, 3) := by decide +kernel
theorem dX6_readArrival_108 : decode cX6_readArrival 108 = .ok (.bipush 64, 2) := by decide +kernel
theorem dX6_readArrival_110 : decode cX6_readArrival 110 = .ok (.if_icmp .ne 28, 3) := by decide +kernel
theorem dX6_readArrival_113 : decode cX6_readArrival 113 = .ok (.aload_n 0, 1) := by decide +kernel
theorem dX6_readArrival_114 : decode cX6_readArrival 114 = .ok (.dup, 1) := by decide +kernel
theorem dX6_readArrival_115 : decode cX6_readArrival 115 = .ok (.getfield 118, 3) := by decide +kernel
theorem dX6_readArrival_118 : decode cX6_readArrival 118 = .ok (.iconst 1, 1) := by decide +kernel
theorem dX6_readArrival_119 : decode cX6_readArrival 119 = .ok (.iadd, 1) := by decide +kernel
theorem dX6_readArrival_120 : decode cX6_readArrival 120 = .ok (.putfield 118, 3) := by decide +kernel
theorem dX6_readArrival_123 : decode cX6_readArrival 123 = .ok (.aload_n 0, 1) := by decide +kernel
theorem dX6_readArrival_124 : decode cX6_readArrival 124 = .ok (.getfield 23, 3) := by decide +kernel
theorem dX6_readArrival_127 : decode cX6_readArrival 127 = .ok (.iload_n 1, 1) := by decide +kernel
theorem dX6_readArrival_128 : decode cX6_readArrival 128 = .ok (.iconst 2, 1) := by decide +kernel
theorem dX6_readArrival_129 : decode cX6_readArrival 129 = .ok (.iadd, 1) := by decide +kernel
theorem dX6_readArrival_130 : decode cX6_readArrival 130 = .ok (.aload_n 0, 1) := by decide +kernel
theorem dX6_readArrival_131 : decode cX6_readArrival 131 = .ok (.sipush 9999, 3) := by decide +kernel
theorem dX6_readArrival_134 : decode cX6_readArrival 134 = .ok (.invokevirtual 142, 3) := by decide +kernel
theorem dX6_readArrival_137 : decode cX6_readArrival 137 = .ok (.iastore, 1) := by decide +kernel
theorem dX6_readArrival_138 : decode cX6_readArrival 138 = .ok (.aload_n 0, 1) := by decide +kernel
theorem dX6_readArrival_139 : decode cX6_readArrival 139 = .ok (.getfield 129, 3) := by decide +kernel
theorem dX6_readArrival_142 : decode cX6_readArrival 142 = .ok (.ifCond .ne 36, 3) := by decide +kernel
theorem dX6_readArrival_145 : decode cX6_readArrival 145 = .ok (.aload_n 0, 1) := by decide +kernel
theorem dX6_readArrival_146 : decode cX6_readArrival 146 = .ok (.invokevirtual 122, 3) := by decide +kernel
theorem dX6_readArrival_149 : decode cX6_readArrival 149 = .ok (.bipush 42, 2) := by decide +kernel
theorem dX6_readArrival_151 : decode cX6_readArrival 151 = .ok (.if_icmp .ne 27, 3) := by decide +kernel
theorem dX6_readArrival_154 : decode cX6_readArrival 154 = .ok (.aload_n 0, 1) := by decide +kernel
theorem dX6_readArrival_155 : decode cX6_readArrival 155 = .ok (.dup, 1) := by decide +kernel
theorem dX6_readArrival_156 : decode cX6_readArrival 156 = .ok (.getfield 118, 3) := by decide +kernel
theorem dX6_readArrival_159 : decode cX6_readArrival 159 = .ok (.iconst 1, 1) := by decide +kernel
theorem dX6_readArrival_160 : decode cX6_readArrival 160 = .ok (.iadd, 1) := by decide +kernel
theorem dX6_readArrival_161 : decode cX6_readArrival 161 = .ok (.putfield 118, 3) := by decide +kernel
theorem dX6_readArrival_164 : decode cX6_readArrival 164 = .ok (.aload_n 0, 1) := by decide +kernel
theorem dX6_readArrival_165 : decode cX6_readArrival 165 = .ok (.getfield 23, 3) := by decide +kernel
theorem dX6_readArrival_168 : decode cX6_readArrival 168 = .ok (.iload_n 1, 1) := by decide +kernel
theorem dX6_readArrival_169 : decode cX6_readArrival 169 = .ok (.iconst 3, 1) := by decide +kernel
theorem dX6_readArrival_170 : decode cX6_readArrival 170 = .ok (.iadd, 1) := by decide +kernel
theorem dX6_readArrival_171 : decode cX6_readArrival 171 = .ok (.aload_n 0, 1) := by decide +kernel
theorem dX6_readArrival_172 : decode cX6_readArrival 172 = .ok (.bipush 9, 2) := by decide +kernel
theorem dX6_readArrival_174 : decode cX6_readArrival 174 = .ok (.invokevirtual 142, 3) := by decide +kernel
theorem dX6_readArrival_177 : decode cX6_readArrival 177 = .ok (.iastore, 1) := by decide +kernel
theorem dX6_readArrival_178 : decode cX6_readArrival 178 = .ok (.aload_n 0, 1) := by decide +kernel
theorem dX6_readArrival_179 : decode cX6_readArrival 179 = .ok (.dup, 1) := by decide +kernel
theorem dX6_readArrival_180 : decode cX6_readArrival 180 = .ok (.getfield 135, 3) := by decide +kernel
theorem dX6_readArrival_183 : decode cX6_readArrival 183 = .ok (.iconst 1, 1) := by decide +kernel
theorem dX6_readArrival_184 : decode cX6_readArrival 184 = .ok (.iadd, 1) := by decide +kernel
theorem dX6_readArrival_185 : decode cX6_readArrival 185 = .ok (.putfield 135, 3) := by decide +kernel
theorem dX6_readArrival_188 : decode cX6_readArrival 188 = .ok (.return_, 1) := by decide +kernel
theorem dX6_fault_0 : decode cX6_fault 0 = .ok (.aload_n 0, 1) := by decide +kernel
theorem dX6_fault_1 : decode cX6_fault 1 = .ok (.iconst 0, 1) := by decide +kernel
theorem dX6_fault_2 : decode cX6_fault 2 = .ok (.putfield 118, 3) := by decide +kernel
theorem dX6_fault_5 : decode cX6_fault 5 = .ok (.aload_n 0, 1) := by decide +kernel
theorem dX6_fault_6 : decode cX6_fault 6 = .ok (.iconst 0, 1) := by decide +kernel
theorem dX6_fault_7 : decode cX6_fault 7 = .ok (.putfield 135, 3) := by decide +kernel
theorem dX6_fault_10 : decode cX6_fault 10 = .ok (.aload_n 0, 1) := by decide +kernel
theorem dX6_fault_11 : decode cX6_fault 11 = .ok (.iconst 0, 1) := by decide +kernel
theorem dX6_fault_12 : decode cX6_fault 12 = .ok (.putfield 129, 3) := by decide +kernel
theorem dX6_fault_15 : decode cX6_fault 15 = .ok (.iconst 1, 1) := by decide +kernel
theorem dX6_fault_16 : decode cX6_fault 16 = .ok (.istore_n 1, 1) := by decide +kernel
theorem dX6_fault_17 : decode cX6_fault 17 = .ok (.iload_n 1, 1) := by decide +kernel
theorem dX6_fault_18 : decode cX6_fault 18 = .ok (.ifCond .eq 50, 3) := by decide +kernel
theorem dX6_fault_21 : decode cX6_fault 21 = .ok (.aload_n 0, 1) := by decide +kernel
theorem dX6_fault_22 : decode cX6_fault 22 = .ok (.invokevirtual 146, 3) := by decide +kernel
theorem dX6_fault_25 : decode cX6_fault 25 = .ok (.aload_n 0, 1) := by decide +kernel
theorem dX6_fault_26 : decode cX6_fault 26 = .ok (.getfield 129, 3) := by decide +kernel
theorem dX6_fault_29 : decode cX6_fault 29 = .ok (.ifCond .ne 16, 3) := by decide +kernel
theorem dX6_fault_32 : decode cX6_fault 32 = .ok (.aload_n 0, 1) := by decide +kernel
theorem dX6_fault_33 : decode cX6_fault 33 = .ok (.invokevirtual 122, 3) := by decide +kernel
theorem dX6_fault_36 : decode cX6_fault 36 = .ok (.bipush 44, 2) := by decide +kernel
theorem dX6_fault_38 : decode cX6_fault 38 = .ok (.if_icmp .ne 7, 3) := by decide +kernel
theorem dX6_fault_41 : decode cX6_fault 41 = .ok (.iconst 1, 1) := by decide +kernel
theorem dX6_fault_42 : decode cX6_fault 42 = .ok (.goto 4, 3) := by decide +kernel
theorem dX6_fault_45 : decode cX6_fault 45 = .ok (.iconst 0, 1) := by decide +kernel
theorem dX6_fault_46 : decode cX6_fault 46 = .ok (.istore_n 1, 1) := by decide +kernel
theorem dX6_fault_47 : decode cX6_fault 47 = .ok (.aload_n 0, 1) := by decide +kernel
theorem dX6_fault_48 : decode cX6_fault 48 = .ok (.dup, 1) := by decide +kernel
theorem dX6_fault_49 : decode cX6_fault 49 = .ok (.getfield 118, 3) := by decide +kernel
theorem dX6_fault_52 : decode cX6_fault 52 = .ok (.iload_n 1, 1) := by decide +kernel
theorem dX6_fault_53 : decode cX6_fault 53 = .ok (.ifCond .eq 7, 3) := by decide +kernel
theorem dX6_fault_56 : decode cX6_fault 56 = .ok (.iconst 1, 1) := by decide +kernel
theorem dX6_fault_57 : decode cX6_fault 57 = .ok (.goto 4, 3) := by decide +kernel
theorem dX6_fault_60 : decode cX6_fault 60 = .ok (.iconst 0, 1) := by decide +kernel
theorem dX6_fault_61 : decode cX6_fault 61 = .ok (.iadd, 1) := by decide +kernel
theorem dX6_fault_62 : decode cX6_fault 62 = .ok (.putfield 118, 3) := by decide +kernel
theorem dX6_fault_65 : decode cX6_fault 65 = .ok (.goto (-48), 3) := by decide +kernel
theorem dX6_fault_68 : decode cX6_fault 68 = .ok (.aload_n 0, 1) := by decide +kernel
theorem dX6_fault_69 : decode cX6_fault 69 = .ok (.getfield 129, 3) := by decide +kernel
theorem dX6_fault_72 : decode cX6_fault 72 = .ok (.ifCond .ne 20, 3) := by decide +kernel
theorem dX6_fault_75 : decode cX6_fault 75 = .ok (.aload_n 0, 1) := by decide +kernel
theorem dX6_fault_76 : decode cX6_fault 76 = .ok (.getfield 118, 3) := by decide +kernel
theorem dX6_fault_79 : decode cX6_fault 79 = .ok (.i2l, 1) := by decide +kernel
theorem dX6_fault_80 : decode cX6_fault 80 = .ok (.aload_n 0, 1) := by decide +kernel
theorem dX6_fault_81 : decode cX6_fault 81 = .ok (.getfield 7, 3) := by decide +kernel
theorem dX6_fault_84 : decode cX6_fault 84 = .ok (.sipush 1825, 3) := by decide +kernel
theorem dX6_fault_87 : decode cX6_fault 87 = .ok (.laload, 1) := by decide +kernel
theorem dX6_fault_88 : decode cX6_fault 88 = .ok (.lcmp, 1) := by decide +kernel
theorem dX6_fault_89 : decode cX6_fault 89 = .ok (.ifCond .ge 10, 3) := by decide +kernel
theorem dX6_fault_92 : decode cX6_fault 92 = .ok (.aload_n 0, 1) := by decide +kernel
theorem dX6_fault_93 : decode cX6_fault 93 = .ok (.getfield 118, 3) := by decide +kernel
theorem dX6_fault_96 : decode cX6_fault 96 = .ok (.goto 5, 3) := by decide +kernel
theorem dX6_fault_99 : decode cX6_fault 99 = .ok (.bipush (-6), 2) := by decide +kernel
theorem dX6_fault_101 : decode cX6_fault 101 = .ok (.ireturn, 1) := by decide +kernel
theorem dX6_load_0 : decode cX6_load 0 = .ok (.aload_n 0, 1) := by decide +kernel
theorem dX6_load_1 : decode cX6_load 1 = .ok (.invokevirtual 149, 3) := by decide +kernel
theorem dX6_load_4 : decode cX6_load 4 = .ok (.bipush (-6), 2) := by decide +kernel
theorem dX6_load_6 : decode cX6_load 6 = .ok (.if_icmp .eq 6, 3) := by decide +kernel
theorem dX6_load_9 : decode cX6_load 9 = .ok (.bipush (-3), 2) := by decide +kernel
theorem dX6_load_11 : decode cX6_load 11 = .ok (.ireturn, 1) := by decide +kernel
theorem dX6_load_12 : decode cX6_load 12 = .ok (.iconst 0, 1) := by decide +kernel
theorem dX6_load_13 : decode cX6_load 13 = .ok (.istore_n 1, 1) := by decide +kernel
theorem dX6_load_14 : decode cX6_load 14 = .ok (.iload_n 1, 1) := by decide +kernel
theorem dX6_load_15 : decode cX6_load 15 = .ok (.aload_n 0, 1) := by decide +kernel
theorem dX6_load_16 : decode cX6_load 16 = .ok (.getfield 135, 3) := by decide +kernel
theorem dX6_load_19 : decode cX6_load 19 = .ok (.if_icmp .ge 26, 3) := by decide +kernel
theorem dX6_load_22 : decode cX6_load 22 = .ok (.aload_n 0, 1) := by decide +kernel
theorem dX6_load_23 : decode cX6_load 23 = .ok (.aload_n 0, 1) := by decide +kernel
theorem dX6_load_24 : decode cX6_load 24 = .ok (.getfield 23, 3) := by decide +kernel
theorem dX6_load_27 : decode cX6_load 27 = .ok (.iconst 4, 1) := by decide +kernel
theorem dX6_load_28 : decode cX6_load 28 = .ok (.iload_n 1, 1) := by decide +kernel
theorem dX6_load_29 : decode cX6_load 29 = .ok (.imul, 1) := by decide +kernel
theorem dX6_load_30 : decode cX6_load 30 = .ok (.iaload, 1) := by decide +kernel
theorem dX6_load_31 : decode cX6_load 31 = .ok (.invokevirtual 72, 3) := by decide +kernel
theorem dX6_load_34 : decode cX6_load 34 = .ok (.ifCond .ne 5, 3) := by decide +kernel
theorem dX6_load_37 : decode cX6_load 37 = .ok (.iconst (-1), 1) := by decide +kernel
theorem dX6_load_38 : decode cX6_load 38 = .ok (.ireturn, 1) := by decide +kernel
theorem dX6_load_39 : decode cX6_load 39 = .ok (.iinc 1 1, 3) := by decide +kernel
theorem dX6_load_42 : decode cX6_load 42 = .ok (.goto (-28), 3) := by decide +kernel
theorem dX6_load_45 : decode cX6_load 45 = .ok (.iconst 0, 1) := by decide +kernel
theorem dX6_load_46 : decode cX6_load 46 = .ok (.istore_n 1, 1) := by decide +kernel
theorem dX6_load_47 : decode cX6_load 47 = .ok (.iconst 0, 1) := by decide +kernel
theorem dX6_load_48 : decode cX6_load 48 = .ok (.istore_n 2, 1) := by decide +kernel
theorem dX6_load_49 : decode cX6_load 49 = .ok (.iload_n 2, 1) := by decide +kernel
theorem dX6_load_50 : decode cX6_load 50 = .ok (.aload_n 0, 1) := by decide +kernel
theorem dX6_load_51 : decode cX6_load 51 = .ok (.getfield 135, 3) := by decide +kernel
theorem dX6_load_54 : decode cX6_load 54 = .ok (.if_icmp .ge 82, 3) := by decide +kernel
theorem dX6_load_57 : decode cX6_load 57 = .ok (.iconst 0, 1) := by decide +kernel
theorem dX6_load_58 : decode cX6_load 58 = .ok (.istore_n 3, 1) := by decide +kernel
theorem dX6_load_59 : decode cX6_load 59 = .ok (.iload_n 3, 1) := by decide +kernel
theorem dX6_load_60 : decode cX6_load 60 = .ok (.aload_n 0, 1) := by decide +kernel
theorem dX6_load_61 : decode cX6_load 61 = .ok (.getfield 23, 3) := by decide +kernel
theorem dX6_load_64 : decode cX6_load 64 = .ok (.iconst 4, 1) := by decide +kernel
theorem dX6_load_65 : decode cX6_load 65 = .ok (.iload_n 2, 1) := by decide +kernel
theorem dX6_load_66 : decode cX6_load 66 = .ok (.imul, 1) := by decide +kernel
theorem dX6_load_67 : decode cX6_load 67 = .ok (.iconst 3, 1) := by decide +kernel
theorem dX6_load_68 : decode cX6_load 68 = .ok (.iadd, 1) := by decide +kernel
theorem dX6_load_69 : decode cX6_load 69 = .ok (.iaload, 1) := by decide +kernel
theorem dX6_load_70 : decode cX6_load 70 = .ok (.if_icmp .ge 60, 3) := by decide +kernel
theorem dX6_load_73 : decode cX6_load 73 = .ok (.aload_n 0, 1) := by decide +kernel
theorem dX6_load_74 : decode cX6_load 74 = .ok (.aload_n 0, 1) := by decide +kernel
theorem dX6_load_75 : decode cX6_load 75 = .ok (.getfield 23, 3) := by decide +kernel
theorem dX6_load_78 : decode cX6_load 78 = .ok (.iconst 4, 1) := by decide +kernel
theorem dX6_load_79 : decode cX6_load 79 = .ok (.iload_n 2, 1) := by decide +kernel
theorem dX6_load_80 : decode cX6_load 80 = .ok (.imul, 1) := by decide +kernel
theorem dX6_load_81 : decode cX6_load 81 = .ok (.iaload, 1) := by decide +kernel
theorem dX6_load_82 : decode cX6_load 82 = .ok (.invokevirtual 87, 3) := by decide +kernel
theorem dX6_load_85 : decode cX6_load 85 = .ok (.ifCond .eq 39, 3) := by decide +kernel
theorem dX6_load_88 : decode cX6_load 88 = .ok (.aload_n 0, 1) := by decide +kernel
theorem dX6_load_89 : decode cX6_load 89 = .ok (.aload_n 0, 1) := by decide +kernel
theorem dX6_load_90 : decode cX6_load 90 = .ok (.getfield 23, 3) := by decide +kernel
theorem dX6_load_93 : decode cX6_load 93 = .ok (.iconst 4, 1) := by decide +kernel
theorem dX6_load_94 : decode cX6_load 94 = .ok (.iload_n 2, 1) := by decide +kernel
theorem dX6_load_95 : decode cX6_load 95 = .ok (.imul, 1) := by decide +kernel
theorem dX6_load_96 : decode cX6_load 96 = .ok (.iaload, 1) := by decide +kernel
theorem dX6_load_97 : decode cX6_load 97 = .ok (.aload_n 0, 1) := by decide +kernel
theorem dX6_load_98 : decode cX6_load 98 = .ok (.getfield 23, 3) := by decide +kernel
theorem dX6_load_101 : decode cX6_load 101 = .ok (.iconst 4, 1) := by decide +kernel
theorem dX6_load_102 : decode cX6_load 102 = .ok (.iload_n 2, 1) := by decide +kernel
theorem dX6_load_103 : decode cX6_load 103 = .ok (.imul, 1) := by decide +kernel
theorem dX6_load_104 : decode cX6_load 104 = .ok (.iconst 1, 1) := by decide +kernel
theorem dX6_load_105 : decode cX6_load 105 = .ok (.iadd, 1) := by decide +kernel
theorem dX6_load_106 : decode cX6_load 106 = .ok (.iaload, 1) := by decide +kernel
theorem dX6_load_107 : decode cX6_load 107 = .ok (.aload_n 0, 1) := by decide +kernel
theorem dX6_load_108 : decode cX6_load 108 = .ok (.getfield 23, 3) := by decide +kernel
theorem dX6_load_111 : decode cX6_load 111 = .ok (.iconst 4, 1) := by decide +kernel
theorem dX6_load_112 : decode cX6_load 112 = .ok (.iload_n 2, 1) := by decide +kernel
theorem dX6_load_113 : decode cX6_load 113 = .ok (.imul, 1) := by decide +kernel
theorem dX6_load_114 : decode cX6_load 114 = .ok (.iconst 2, 1) := by decide +kernel
theorem dX6_load_115 : decode cX6_load 115 = .ok (.iadd, 1) := by decide +kernel
theorem dX6_load_116 : decode cX6_load 116 = .ok (.iaload, 1) := by decide +kernel
theorem dX6_load_117 : decode cX6_load 117 = .ok (.invokevirtual 90, 3) := by decide +kernel
theorem dX6_load_120 : decode cX6_load 120 = .ok (.pop, 1) := by decide +kernel
theorem dX6_load_121 : decode cX6_load 121 = .ok (.iinc 1 1, 3) := by decide +kernel
theorem dX6_load_124 : decode cX6_load 124 = .ok (.iinc 3 1, 3) := by decide +kernel
theorem dX6_load_127 : decode cX6_load 127 = .ok (.goto (-68), 3) := by decide +kernel
theorem dX6_load_130 : decode cX6_load 130 = .ok (.iinc 2 1, 3) := by decide +kernel
theorem dX6_load_133 : decode cX6_load 133 = .ok (.goto (-84), 3) := by decide +kernel
theorem dX6_load_136 : decode cX6_load 136 = .ok (.aload_n 0, 1) := by decide +kernel
theorem dX6_load_137 : decode cX6_load 137 = .ok (.getfield 7, 3) := by decide +kernel
theorem dX6_load_140 : decode cX6_load 140 = .ok (.sipush 1825, 3) := by decide +kernel
theorem dX6_load_143 : decode cX6_load 143 = .ok (.lconst 0, 1) := by decide +kernel
theorem dX6_load_144 : decode cX6_load 144 = .ok (.lastore, 1) := by decide +kernel
theorem dX6_load_145 : decode cX6_load 145 = .ok (.iload_n 1, 1) := by decide +kernel
theorem dX6_load_146 : decode cX6_load 146 = .ok (.ireturn, 1) := by decide +kernel
theorem dX6_deliver_0 : decode cX6_deliver 0 = .ok (.aload_n 0, 1) := by decide +kernel
theorem dX6_deliver_1 : decode cX6_deliver 1 = .ok (.iload_n 1, 1) := by decide +kernel
theorem dX6_deliver_2 : decode cX6_deliver 2 = .ok (.iconst 0, 1) := by decide +kernel
theorem dX6_deliver_3 : decode cX6_deliver 3 = .ok (.invokevirtual 49, 3) := by decide +kernel
theorem dX6_deliver_6 : decode cX6_deliver 6 = .ok (.l2i, 1) := by decide +kernel
theorem dX6_deliver_7 : decode cX6_deliver 7 = .ok (.istore_n 2, 1) := by decide +kernel
theorem dX6_deliver_8 : decode cX6_deliver 8 = .ok (.aload_n 0, 1) := by decide +kernel
theorem dX6_deliver_9 : decode cX6_deliver 9 = .ok (.getfield 7, 3) := by decide +kernel
theorem dX6_deliver_12 : decode cX6_deliver 12 = .ok (.iconst 0, 1) := by decide +kernel
theorem dX6_deliver_13 : decode cX6_deliver 13 = .ok (.laload, 1) := by decide +kernel
theorem dX6_deliver_14 : decode cX6_deliver 14 = .ok (.aload_n 0, 1) := by decide +kernel
theorem dX6_deliver_15 : decode cX6_deliver 15 = .ok (.iload_n 1, 1) := by decide +kernel
theorem dX6_deliver_16 : decode cX6_deliver 16 = .ok (.iconst 2, 1) := by decide +kernel
theorem dX6_deliver_17 : decode cX6_deliver 17 = .ok (.invokevirtual 49, 3) := by decide +kernel
theorem dX6_deliver_20 : decode cX6_deliver 20 = .ok (.lsub, 1) := by decide +kernel
theorem dX6_deliver_21 : decode cX6_deliver 21 = .ok (.lstore_n 3, 1) := by decide +kernel
theorem dX6_deliver_22 : decode cX6_deliver 22 = .ok (.aload_n 0, 1) := by decide +kernel
theorem dX6_deliver_23 : decode cX6_deliver 23 = .ok (.getfield 7, 3) := by decide +kernel
theorem dX6_deliver_26 : decode cX6_deliver 26 = .ok (.iload_n 1, 1) := by decide +kernel
theorem dX6_deliver_27 : decode cX6_deliver 27 = .ok (.iconst 4, 1) := by decide +kernel
theorem dX6_deliver_28 : decode cX6_deliver 28 = .ok (.invokestatic 46, 3) := by decide +kernel
theorem dX6_deliver_31 : decode cX6_deliver 31 = .ok (.ldc2_w 152, 3) := by decide +kernel
theorem dX6_deliver_34 : decode cX6_deliver 34 = .ok (.lastore, 1) := by decide +kernel
theorem dX6_deliver_35 : decode cX6_deliver 35 = .ok (.aload_n 0, 1) := by decide +kernel
theorem dX6_deliver_36 : decode cX6_deliver 36 = .ok (.getfield 7, 3) := by decide +kernel
theorem dX6_deliver_39 : decode cX6_deliver 39 = .ok (.iload_n 1, 1) := by decide +kernel
theorem dX6_deliver_40 : decode cX6_deliver 40 = .ok (.bipush 8, 2) := by decide +kernel
theorem dX6_deliver_42 : decode cX6_deliver 42 = .ok (.invokestatic 46, 3) := by decide +kernel
theorem dX6_deliver_45 : decode cX6_deliver 45 = .ok (.aload_n 0, 1) := by decide +kernel
theorem dX6_deliver_46 : decode cX6_deliver 46 = .ok (.getfield 7, 3) := by decide +kernel
theorem dX6_deliver_49 : decode cX6_deliver 49 = .ok (.iconst 0, 1) := by decide +kernel
theorem dX6_deliver_50 : decode cX6_deliver 50 = .ok (.laload, 1) := by decide +kernel
theorem dX6_deliver_51 : decode cX6_deliver 51 = .ok (.lastore, 1) := by decide +kernel
theorem dX6_deliver_52 : decode cX6_deliver 52 = .ok (.aload_n 0, 1) := by decide +kernel
theorem dX6_deliver_53 : decode cX6_deliver 53 = .ok (.getfield 7, 3) := by decide +kernel
theorem dX6_deliver_56 : decode cX6_deliver 56 = .ok (.iload_n 2, 1) := by decide +kernel
theorem dX6_deliver_57 : decode cX6_deliver 57 = .ok (.bipush 7, 2) := by decide +kernel
theorem dX6_deliver_59 : decode cX6_deliver 59 = .ok (.invokestatic 40, 3) := by decide +kernel
theorem dX6_deliver_62 : decode cX6_deliver 62 = .ok (.dup2, 1) := by decide +kernel
theorem dX6_deliver_63 : decode cX6_deliver 63 = .ok (.laload, 1) := by decide +kernel
theorem dX6_deliver_64 : decode cX6_deliver 64 = .ok (.lconst 1, 1) := by decide +kernel
theorem dX6_deliver_65 : decode cX6_deliver 65 = .ok (.ladd, 1) := by decide +kernel
theorem dX6_deliver_66 : decode cX6_deliver 66 = .ok (.lastore, 1) := by decide +kernel
theorem dX6_deliver_67 : decode cX6_deliver 67 = .ok (.aload_n 0, 1) := by decide +kernel
theorem dX6_deliver_68 : decode cX6_deliver 68 = .ok (.getfield 7, 3) := by decide +kernel
theorem dX6_deliver_71 : decode cX6_deliver 71 = .ok (.iload_n 2, 1) := by decide +kernel
theorem dX6_deliver_72 : decode cX6_deliver 72 = .ok (.bipush 8, 2) := by decide +kernel
theorem dX6_deliver_74 : decode cX6_deliver 74 = .ok (.invokestatic 40, 3) := by decide +kernel
theorem dX6_deliver_77 : decode cX6_deliver 77 = .ok (.dup2, 1) := by decide +kernel
theorem dX6_deliver_78 : decode cX6_deliver 78 = .ok (.laload, 1) := by decide +kernel
theorem dX6_deliver_79 : decode cX6_deliver 79 = .ok (.aload_n 0, 1) := by decide +kernel
theorem dX6_deliver_80 : decode cX6_deliver 80 = .ok (.iload_n 1, 1) := by decide +kernel
theorem dX6_deliver_81 : decode cX6_deliver 81 = .ok (.iconst 3, 1) := by decide +kernel
theorem dX6_deliver_82 : decode cX6_deliver 82 = .ok (.invokevirtual 49, 3) := by decide +kernel
theorem dX6_deliver_85 : decode cX6_deliver 85 = .ok (.ldc2_w 34, 3) := by decide +kernel
theorem dX6_deliver_88 : decode cX6_deliver 88 = .ok (.lcmp, 1) := by decide +kernel
theorem dX6_deliver_89 : decode cX6_deliver 89 = .ok (.ifCond .eq 23, 3) := by decide +kernel
theorem dX6_deliver_92 : decode cX6_deliver 92 = .ok (.aload_n 0, 1) := by decide +kernel
theorem dX6_deliver_93 : decode cX6_deliver 93 = .ok (.getfield 7, 3) := by decide +kernel
theorem dX6_deliver_96 : decode cX6_deliver 96 = .ok (.iconst 0, 1) := by decide +kernel
theorem dX6_deliver_97 : decode cX6_deliver 97 = .ok (.laload, 1) := by decide +kernel
theorem dX6_deliver_98 : decode cX6_deliver 98 = .ok (.aload_n 0, 1) := by decide +kernel
theorem dX6_deliver_99 : decode cX6_deliver 99 = .ok (.iload_n 1, 1) := by decide +kernel
theorem dX6_deliver_100 : decode cX6_deliver 100 = .ok (.iconst 3, 1) := by decide +kernel
theorem dX6_deliver_101 : decode cX6_deliver 101 = .ok (.invokevirtual 49, 3) := by decide +kernel
theorem dX6_deliver_104 : decode cX6_deliver 104 = .ok (.lcmp, 1) := by decide +kernel
theorem dX6_deliver_105 : decode cX6_deliver 105 = .ok (.ifCond .le 7, 3) := by decide +kernel
theorem dX6_deliver_108 : decode cX6_deliver 108 = .ok (.lconst 1, 1) := by decide +kernel
theorem dX6_deliver_109 : decode cX6_deliver 109 = .ok (.goto 4, 3) := by decide +kernel
theorem dX6_deliver_112 : decode cX6_deliver 112 = .ok (.lconst 0, 1) := by decide +kernel
theorem dX6_deliver_113 : decode cX6_deliver 113 = .ok (.ladd, 1) := by decide +kernel
theorem dX6_deliver_114 : decode cX6_deliver 114 = .ok (.lastore, 1) := by decide +kernel
theorem dX6_deliver_115 : decode cX6_deliver 115 = .ok (.aload_n 0, 1) := by decide +kernel
theorem dX6_deliver_116 : decode cX6_deliver 116 = .ok (.getfield 7, 3) := by decide +kernel
theorem dX6_deliver_119 : decode cX6_deliver 119 = .ok (.iload_n 2, 1) := by decide +kernel
theorem dX6_deliver_120 : decode cX6_deliver 120 = .ok (.bipush 9, 2) := by decide +kernel
theorem dX6_deliver_122 : decode cX6_deliver 122 = .ok (.invokestatic 40, 3) := by decide +kernel
theorem dX6_deliver_125 : decode cX6_deliver 125 = .ok (.lload_n 3, 1) := by decide +kernel
theorem dX6_deliver_126 : decode cX6_deliver 126 = .ok (.aload_n 0, 1) := by decide +kernel
theorem dX6_deliver_127 : decode cX6_deliver 127 = .ok (.iload_n 2, 1) := by decide +kernel
theorem dX6_deliver_128 : decode cX6_deliver 128 = .ok (.bipush 9, 2) := by decide +kernel
theorem dX6_deliver_130 : decode cX6_deliver 130 = .ok (.invokevirtual 53, 3) := by decide +kernel
theorem dX6_deliver_133 : decode cX6_deliver 133 = .ok (.lcmp, 1) := by decide +kernel
theorem dX6_deliver_134 : decode cX6_deliver 134 = .ok (.ifCond .le 7, 3) := by decide +kernel
theorem dX6_deliver_137 : decode cX6_deliver 137 = .ok (.lload_n 3, 1) := by decide +kernel
theorem dX6_deliver_138 : decode cX6_deliver 138 = .ok (.goto 10, 3) := by decide +kernel
theorem dX6_deliver_141 : decode cX6_deliver 141 = .ok (.aload_n 0, 1) := by decide +kernel
theorem dX6_deliver_142 : decode cX6_deliver 142 = .ok (.iload_n 2, 1) := by decide +kernel
theorem dX6_deliver_143 : decode cX6_deliver 143 = .ok (.bipush 9, 2) := by decide +kernel
theorem dX6_deliver_145 : decode cX6_deliver 145 = .ok (.invokevirtual 53, 3) := by decide +kernel
theorem dX6_deliver_148 : decode cX6_deliver 148 = .ok (.lastore, 1) := by decide +kernel
theorem dX6_deliver_149 : decode cX6_deliver 149 = .ok (.aload_n 0, 1) := by decide +kernel
theorem dX6_deliver_150 : decode cX6_deliver 150 = .ok (.getfield 7, 3) := by decide +kernel
theorem dX6_deliver_153 : decode cX6_deliver 153 = .ok (.iload_n 2, 1) := by decide +kernel
theorem dX6_deliver_154 : decode cX6_deliver 154 = .ok (.bipush 10, 2) := by decide +kernel
theorem dX6_deliver_156 : decode cX6_deliver 156 = .ok (.invokestatic 40, 3) := by decide +kernel
theorem dX6_deliver_159 : decode cX6_deliver 159 = .ok (.dup2, 1) := by decide +kernel
theorem dX6_deliver_160 : decode cX6_deliver 160 = .ok (.laload, 1) := by decide +kernel
theorem dX6_deliver_161 : decode cX6_deliver 161 = .ok (.lload_n 3, 1) := by decide +kernel
theorem dX6_deliver_162 : decode cX6_deliver 162 = .ok (.ladd, 1) := by decide +kernel
theorem dX6_deliver_163 : decode cX6_deliver 163 = .ok (.lastore, 1) := by decide +kernel
theorem dX6_deliver_164 : decode cX6_deliver 164 = .ok (.aload_n 0, 1) := by decide +kernel
theorem dX6_deliver_165 : decode cX6_deliver 165 = .ok (.aload_n 0, 1) := by decide +kernel
theorem dX6_deliver_166 : decode cX6_deliver 166 = .ok (.getfield 154, 3) := by decide +kernel
theorem dX6_deliver_169 : decode cX6_deliver 169 = .ok (.ifCond .lt 11, 3) := by decide +kernel
theorem dX6_deliver_172 : decode cX6_deliver 172 = .ok (.iload_n 1, 1) := by decide +kernel
theorem dX6_deliver_173 : decode cX6_deliver 173 = .ok (.aload_n 0, 1) := by decide +kernel
theorem dX6_deliver_174 : decode cX6_deliver 174 = .ok (.getfield 154, 3) := by decide +kernel
theorem dX6_deliver_177 : decode cX6_deliver 177 = .ok (.if_icmp .ge 7, 3) := by decide +kernel
theorem dX6_deliver_180 : decode cX6_deliver 180 = .ok (.iload_n 1, 1) := by decide +kernel
theorem dX6_deliver_181 : decode cX6_deliver 181 = .ok (.goto 7, 3) := by decide +kernel
theorem dX6_deliver_184 : decode cX6_deliver 184 = .ok (.aload_n 0, 1) := by decide +kernel
theorem dX6_deliver_185 : decode cX6_deliver 185 = .ok (.getfield 154, 3) := by decide +kernel
theorem dX6_deliver_188 : decode cX6_deliver 188 = .ok (.putfield 154, 3) := by decide +kernel
theorem dX6_deliver_191 : decode cX6_deliver 191 = .ok (.return_, 1) := by decide +kernel
theorem dX6_notePiece_0 : decode cX6_notePiece 0 = .ok (.sipush 1445, 3) := by decide +kernel
theorem dX6_notePiece_3 : decode cX6_notePiece 3 = .ok (.iconst 5, 1) := by decide +kernel
theorem dX6_notePiece_4 : decode cX6_notePiece 4 = .ok (.aload_n 0, 1) := by decide +kernel
theorem dX6_notePiece_5 : decode cX6_notePiece 5 = .ok (.getfield 7, 3) := by decide +kernel
theorem dX6_notePiece_8 : decode cX6_notePiece 8 = .ok (.bipush 15, 2) := by decide +kernel
theorem dX6_notePiece_10 : decode cX6_notePiece 10 = .ok (.laload, 1) := by decide +kernel
theorem dX6_notePiece_11 : decode cX6_notePiece 11 = .ok (.ldc2_w 157, 3) := by decide +kernel
theorem dX6_notePiece_14 : decode cX6_notePiece 14 = .ok (.lrem, 1) := by decide +kernel
theorem dX6_notePiece_15 : decode cX6_notePiece 15 = .ok (.l2i, 1) := by decide +kernel
theorem dX6_notePiece_16 : decode cX6_notePiece 16 = .ok (.imul, 1) := by decide +kernel
theorem dX6_notePiece_17 : decode cX6_notePiece 17 = .ok (.iadd, 1) := by decide +kernel
theorem dX6_notePiece_18 : decode cX6_notePiece 18 = .ok (.istore_n 2, 1) := by decide +kernel
theorem dX6_notePiece_19 : decode cX6_notePiece 19 = .ok (.aload_n 0, 1) := by decide +kernel
theorem dX6_notePiece_20 : decode cX6_notePiece 20 = .ok (.getfield 7, 3) := by decide +kernel
theorem dX6_notePiece_23 : decode cX6_notePiece 23 = .ok (.iload_n 2, 1) := by decide +kernel
theorem dX6_notePiece_24 : decode cX6_notePiece 24 = .ok (.iload_n 1, 1) := by decide +kernel
theorem dX6_notePiece_25 : decode cX6_notePiece 25 = .ok (.i2l, 1) := by decide +kernel
theorem dX6_notePiece_26 : decode cX6_notePiece 26 = .ok (.lastore, 1) := by decide +kernel
theorem dX6_notePiece_27 : decode cX6_notePiece 27 = .ok (.aload_n 0, 1) := by decide +kernel
theorem dX6_notePiece_28 : decode cX6_notePiece 28 = .ok (.getfield 7, 3) := by decide +kernel
theorem dX6_notePiece_31 : decode cX6_notePiece 31 = .ok (.iload_n 2, 1) := by decide +kernel
theorem dX6_notePiece_32 : decode cX6_notePiece 32 = .ok (.iconst 1, 1) := by decide +kernel
theorem dX6_notePiece_33 : decode cX6_notePiece 33 = .ok (.iadd, 1) := by decide +kernel
theorem dX6_notePiece_34 : decode cX6_notePiece 34 = .ok (.aload_n 0, 1) := by decide +kernel
theorem dX6_notePiece_35 : decode cX6_notePiece 35 = .ok (.iload_n 1, 1) := by decide +kernel
theorem dX6_notePiece_36 : decode cX6_notePiece 36 = .ok (.iconst 0, 1) := by decide +kernel
theorem dX6_notePiece_37 : decode cX6_notePiece 37 = .ok (.invokevirtual 49, 3) := by decide +kernel
theorem dX6_notePiece_40 : decode cX6_notePiece 40 = .ok (.lastore, 1) := by decide +kernel
theorem dX6_notePiece_41 : decode cX6_notePiece 41 = .ok (.aload_n 0, 1) := by decide +kernel
theorem dX6_notePiece_42 : decode cX6_notePiece 42 = .ok (.getfield 7, 3) := by decide +kernel
theorem dX6_notePiece_45 : decode cX6_notePiece 45 = .ok (.iload_n 2, 1) := by decide +kernel
theorem dX6_notePiece_46 : decode cX6_notePiece 46 = .ok (.iconst 2, 1) := by decide +kernel
theorem dX6_notePiece_47 : decode cX6_notePiece 47 = .ok (.iadd, 1) := by decide +kernel
theorem dX6_notePiece_48 : decode cX6_notePiece 48 = .ok (.aload_n 0, 1) := by decide +kernel
theorem dX6_notePiece_49 : decode cX6_notePiece 49 = .ok (.getfield 7, 3) := by decide +kernel
theorem dX6_notePiece_52 : decode cX6_notePiece 52 = .ok (.bipush 9, 2) := by decide +kernel
theorem dX6_notePiece_54 : decode cX6_notePiece 54 = .ok (.laload, 1) := by decide +kernel
theorem dX6_notePiece_55 : decode cX6_notePiece 55 = .ok (.lastore, 1) := by decide +kernel
theorem dX6_notePiece_56 : decode cX6_notePiece 56 = .ok (.aload_n 0, 1) := by decide +kernel
theorem dX6_notePiece_57 : decode cX6_notePiece 57 = .ok (.getfield 7, 3) := by decide +kernel
theorem dX6_notePiece_60 : decode cX6_notePiece 60 = .ok (.iload_n 2, 1) := by decide +kernel
theorem dX6_notePiece_61 : decode cX6_notePiece 61 = .ok (.iconst 3, 1) := by decide +kernel
theorem dX6_notePiece_62 : decode cX6_notePiece 62 = .ok (.iadd, 1) := by decide +kernel
theorem dX6_notePiece_63 : decode cX6_notePiece 63 = .ok (.aload_n 0, 1) := by decide +kernel
theorem dX6_notePiece_64 : decode cX6_notePiece 64 = .ok (.getfield 7, 3) := by decide +kernel
theorem dX6_notePiece_67 : decode cX6_notePiece 67 = .ok (.iconst 0, 1) := by decide +kernel
theorem dX6_notePiece_68 : decode cX6_notePiece 68 = .ok (.laload, 1) := by decide +kernel
theorem dX6_notePiece_69 : decode cX6_notePiece 69 = .ok (.lastore, 1) := by decide +kernel
theorem dX6_notePiece_70 : decode cX6_notePiece 70 = .ok (.aload_n 0, 1) := by decide +kernel
theorem dX6_notePiece_71 : decode cX6_notePiece 71 = .ok (.getfield 7, 3) := by decide +kernel
theorem dX6_notePiece_74 : decode cX6_notePiece 74 = .ok (.iload_n 2, 1) := by decide +kernel
theorem dX6_notePiece_75 : decode cX6_notePiece 75 = .ok (.iconst 4, 1) := by decide +kernel
theorem dX6_notePiece_76 : decode cX6_notePiece 76 = .ok (.iadd, 1) := by decide +kernel
theorem dX6_notePiece_77 : decode cX6_notePiece 77 = .ok (.aload_n 0, 1) := by decide +kernel
theorem dX6_notePiece_78 : decode cX6_notePiece 78 = .ok (.getfield 7, 3) := by decide +kernel
theorem dX6_notePiece_81 : decode cX6_notePiece 81 = .ok (.bipush 11, 2) := by decide +kernel
theorem dX6_notePiece_83 : decode cX6_notePiece 83 = .ok (.laload, 1) := by decide +kernel
theorem dX6_notePiece_84 : decode cX6_notePiece 84 = .ok (.lastore, 1) := by decide +kernel
theorem dX6_notePiece_85 : decode cX6_notePiece 85 = .ok (.aload_n 0, 1) := by decide +kernel
theorem dX6_notePiece_86 : decode cX6_notePiece 86 = .ok (.getfield 7, 3) := by decide +kernel
theorem dX6_notePiece_89 : decode cX6_notePiece 89 = .ok (.bipush 15, 2) := by decide +kernel
theorem dX6_notePiece_91 : decode cX6_notePiece 91 = .ok (.dup2, 1) := by decide +kernel
theorem dX6_notePiece_92 : decode cX6_notePiece 92 = .ok (.laload, 1) := by decide +kernel
theorem dX6_notePiece_93 : decode cX6_notePiece 93 = .ok (.lconst 1, 1) := by decide +kernel
theorem dX6_notePiece_94 : decode cX6_notePiece 94 = .ok (.ladd, 1) := by decide +kernel
theorem dX6_notePiece_95 : decode cX6_notePiece 95 = .ok (.lastore, 1) := by decide +kernel
theorem dX6_notePiece_96 : decode cX6_notePiece 96 = .ok (.aload_n 0, 1) := by decide +kernel
theorem dX6_notePiece_97 : decode cX6_notePiece 97 = .ok (.getfield 7, 3) := by decide +kernel
theorem dX6_notePiece_100 : decode cX6_notePiece 100 = .ok (.bipush 14, 2) := by decide +kernel
theorem dX6_notePiece_102 : decode cX6_notePiece 102 = .ok (.dup2, 1) := by decide +kernel
theorem dX6_notePiece_103 : decode cX6_notePiece 103 = .ok (.laload, 1) := by decide +kernel
theorem dX6_notePiece_104 : decode cX6_notePiece 104 = .ok (.aload_n 0, 1) := by decide +kernel
theorem dX6_notePiece_105 : decode cX6_notePiece 105 = .ok (.getfield 7, 3) := by decide +kernel
theorem dX6_notePiece_108 : decode cX6_notePiece 108 = .ok (.bipush 12, 2) := by decide +kernel
theorem dX6_notePiece_110 : decode cX6_notePiece 110 = .ok (.laload, 1) := by decide +kernel
theorem dX6_notePiece_111 : decode cX6_notePiece 111 = .ok (.ladd, 1) := by decide +kernel
theorem dX6_notePiece_112 : decode cX6_notePiece 112 = .ok (.lastore, 1) := by decide +kernel
theorem dX6_notePiece_113 : decode cX6_notePiece 113 = .ok (.return_, 1) := by decide +kernel
theorem dX6_pieceDone_0 : decode cX6_pieceDone 0 = .ok (.aload_n 0, 1) := by decide +kernel
theorem dX6_pieceDone_1 : decode cX6_pieceDone 1 = .ok (.getfield 7, 3) := by decide +kernel
theorem dX6_pieceDone_4 : decode cX6_pieceDone 4 = .ok (.bipush 8, 2) := by decide +kernel
theorem dX6_pieceDone_6 : decode cX6_pieceDone 6 = .ok (.laload, 1) := by decide +kernel
theorem dX6_pieceDone_7 : decode cX6_pieceDone 7 = .ok (.l2i, 1) := by decide +kernel
theorem dX6_pieceDone_8 : decode cX6_pieceDone 8 = .ok (.istore_n 1, 1) := by decide +kernel
theorem dX6_pieceDone_9 : decode cX6_pieceDone 9 = .ok (.aload_n 0, 1) := by decide +kernel
theorem dX6_pieceDone_10 : decode cX6_pieceDone 10 = .ok (.iload_n 1, 1) := by decide +kernel
theorem dX6_pieceDone_11 : decode cX6_pieceDone 11 = .ok (.iconst 0, 1) := by decide +kernel
theorem dX6_pieceDone_12 : decode cX6_pieceDone 12 = .ok (.invokevirtual 49, 3) := by decide +kernel
theorem dX6_pieceDone_15 : decode cX6_pieceDone 15 = .ok (.l2i, 1) := by decide +kernel
theorem dX6_pieceDone_16 : decode cX6_pieceDone 16 = .ok (.istore_n 2, 1) := by decide +kernel
theorem dX6_pieceDone_17 : decode cX6_pieceDone 17 = .ok (.aload_n 0, 1) := by decide +kernel
theorem dX6_pieceDone_18 : decode cX6_pieceDone 18 = .ok (.iload_n 1, 1) := by decide +kernel
theorem dX6_pieceDone_19 : decode cX6_pieceDone 19 = .ok (.invokevirtual 159, 3) := by decide +kernel
theorem dX6_pieceDone_22 : decode cX6_pieceDone 22 = .ok (.aload_n 0, 1) := by decide +kernel
theorem dX6_pieceDone_23 : decode cX6_pieceDone 23 = .ok (.getfield 7, 3) := by decide +kernel
theorem dX6_pieceDone_26 : decode cX6_pieceDone 26 = .ok (.iload_n 1, 1) := by decide +kernel
theorem dX6_pieceDone_27 : decode cX6_pieceDone 27 = .ok (.iconst 5, 1) := by decide +kernel
theorem dX6_pieceDone_28 : decode cX6_pieceDone 28 = .ok (.invokestatic 46, 3) := by decide +kernel
theorem dX6_pieceDone_31 : decode cX6_pieceDone 31 = .ok (.dup2, 1) := by decide +kernel
theorem dX6_pieceDone_32 : decode cX6_pieceDone 32 = .ok (.laload, 1) := by decide +kernel
theorem dX6_pieceDone_33 : decode cX6_pieceDone 33 = .ok (.aload_n 0, 1) := by decide +kernel
theorem dX6_pieceDone_34 : decode cX6_pieceDone 34 = .ok (.getfield 7, 3) := by decide +kernel
theorem dX6_pieceDone_37 : decode cX6_pieceDone 37 = .ok (.bipush 9, 2) := by decide +kernel
theorem dX6_pieceDone_39 : decode cX6_pieceDone 39 = .ok (.laload, 1) := by decide +kernel
theorem dX6_pieceDone_40 : decode cX6_pieceDone 40 = .ok (.ladd, 1) := by decide +kernel
theorem dX6_pieceDone_41 : decode cX6_pieceDone 41 = .ok (.lastore, 1) := by decide +kernel
theorem dX6_pieceDone_42 : decode cX6_pieceDone 42 = .ok (.aload_n 0, 1) := by decide +kernel
theorem dX6_pieceDone_43 : decode cX6_pieceDone 43 = .ok (.getfield 7, 3) := by decide +kernel
theorem dX6_pieceDone_46 : decode cX6_pieceDone 46 = .ok (.iload_n 1, 1) := by decide +kernel
theorem dX6_pieceDone_47 : decode cX6_pieceDone 47 = .ok (.bipush 6, 2) := by decide +kernel
theorem dX6_pieceDone_49 : decode cX6_pieceDone 49 = .ok (.invokestatic 46, 3) := by decide +kernel
theorem dX6_pieceDone_52 : decode cX6_pieceDone 52 = .ok (.dup2, 1) := by decide +kernel
theorem dX6_pieceDone_53 : decode cX6_pieceDone 53 = .ok (.laload, 1) := by decide +kernel
theorem dX6_pieceDone_54 : decode cX6_pieceDone 54 = .ok (.lconst 1, 1) := by decide +kernel
theorem dX6_pieceDone_55 : decode cX6_pieceDone 55 = .ok (.ladd, 1) := by decide +kernel
theorem dX6_pieceDone_56 : decode cX6_pieceDone 56 = .ok (.lastore, 1) := by decide +kernel
theorem dX6_pieceDone_57 : decode cX6_pieceDone 57 = .ok (.aload_n 0, 1) := by decide +kernel
theorem dX6_pieceDone_58 : decode cX6_pieceDone 58 = .ok (.getfield 7, 3) := by decide +kernel
theorem dX6_pieceDone_61 : decode cX6_pieceDone 61 = .ok (.iload_n 1, 1) := by decide +kernel
theorem dX6_pieceDone_62 : decode cX6_pieceDone 62 = .ok (.bipush 7, 2) := by decide +kernel
theorem dX6_pieceDone_64 : decode cX6_pieceDone 64 = .ok (.invokestatic 46, 3) := by decide +kernel
theorem dX6_pieceDone_67 : decode cX6_pieceDone 67 = .ok (.dup2, 1) := by decide +kernel
theorem dX6_pieceDone_68 : decode cX6_pieceDone 68 = .ok (.laload, 1) := by decide +kernel
theorem dX6_pieceDone_69 : decode cX6_pieceDone 69 = .ok (.aload_n 0, 1) := by decide +kernel
theorem dX6_pieceDone_70 : decode cX6_pieceDone 70 = .ok (.getfield 7, 3) := by decide +kernel
theorem dX6_pieceDone_73 : decode cX6_pieceDone 73 = .ok (.bipush 11, 2) := by decide +kernel
theorem dX6_pieceDone_75 : decode cX6_pieceDone 75 = .ok (.laload, 1) := by decide +kernel
theorem dX6_pieceDone_76 : decode cX6_pieceDone 76 = .ok (.ladd, 1) := by decide +kernel
theorem dX6_pieceDone_77 : decode cX6_pieceDone 77 = .ok (.lastore, 1) := by decide +kernel
theorem dX6_pieceDone_78 : decode cX6_pieceDone 78 = .ok (.aload_n 0, 1) := by decide +kernel
theorem dX6_pieceDone_79 : decode cX6_pieceDone 79 = .ok (.getfield 7, 3) := by decide +kernel
theorem dX6_pieceDone_82 : decode cX6_pieceDone 82 = .ok (.iload_n 1, 1) := by decide +kernel
theorem dX6_pieceDone_83 : decode cX6_pieceDone 83 = .ok (.bipush 10, 2) := by decide +kernel
theorem dX6_pieceDone_85 : decode cX6_pieceDone 85 = .ok (.invokestatic 46, 3) := by decide +kernel
theorem dX6_pieceDone_88 : decode cX6_pieceDone 88 = .ok (.aload_n 0, 1) := by decide +kernel
theorem dX6_pieceDone_89 : decode cX6_pieceDone 89 = .ok (.getfield 7, 3) := by decide +kernel
theorem dX6_pieceDone_92 : decode cX6_pieceDone 92 = .ok (.iconst 0, 1) := by decide +kernel
theorem dX6_pieceDone_93 : decode cX6_pieceDone 93 = .ok (.laload, 1) := by decide +kernel
theorem dX6_pieceDone_94 : decode cX6_pieceDone 94 = .ok (.lastore, 1) := by decide +kernel
theorem dX6_pieceDone_95 : decode cX6_pieceDone 95 = .ok (.aload_n 0, 1) := by decide +kernel
theorem dX6_pieceDone_96 : decode cX6_pieceDone 96 = .ok (.getfield 7, 3) := by decide +kernel
theorem dX6_pieceDone_99 : decode cX6_pieceDone 99 = .ok (.iload_n 2, 1) := by decide +kernel
theorem dX6_pieceDone_100 : decode cX6_pieceDone 100 = .ok (.bipush 6, 2) := by decide +kernel
theorem dX6_pieceDone_102 : decode cX6_pieceDone 102 = .ok (.invokestatic 40, 3) := by decide +kernel
theorem dX6_pieceDone_105 : decode cX6_pieceDone 105 = .ok (.dup2, 1) := by decide +kernel
theorem dX6_pieceDone_106 : decode cX6_pieceDone 106 = .ok (.laload, 1) := by decide +kernel
theorem dX6_pieceDone_107 : decode cX6_pieceDone 107 = .ok (.aload_n 0, 1) := by decide +kernel
theorem dX6_pieceDone_108 : decode cX6_pieceDone 108 = .ok (.getfield 7, 3) := by decide +kernel
theorem dX6_pieceDone_111 : decode cX6_pieceDone 111 = .ok (.bipush 9, 2) := by decide +kernel
theorem dX6_pieceDone_113 : decode cX6_pieceDone 113 = .ok (.laload, 1) := by decide +kernel
theorem dX6_pieceDone_114 : decode cX6_pieceDone 114 = .ok (.ladd, 1) := by decide +kernel
theorem dX6_pieceDone_115 : decode cX6_pieceDone 115 = .ok (.lastore, 1) := by decide +kernel
theorem dX6_pieceDone_116 : decode cX6_pieceDone 116 = .ok (.aload_n 0, 1) := by decide +kernel
theorem dX6_pieceDone_117 : decode cX6_pieceDone 117 = .ok (.getfield 7, 3) := by decide +kernel
theorem dX6_pieceDone_120 : decode cX6_pieceDone 120 = .ok (.bipush 8, 2) := by decide +kernel
theorem dX6_pieceDone_122 : decode cX6_pieceDone 122 = .ok (.ldc2_w 34, 3) := by decide +kernel
theorem dX6_pieceDone_125 : decode cX6_pieceDone 125 = .ok (.lastore, 1) := by decide +kernel
theorem dX6_pieceDone_126 : decode cX6_pieceDone 126 = .ok (.aload_n 0, 1) := by decide +kernel
theorem dX6_pieceDone_127 : decode cX6_pieceDone 127 = .ok (.getfield 7, 3) := by decide +kernel
theorem dX6_pieceDone_130 : decode cX6_pieceDone 130 = .ok (.bipush 9, 2) := by decide +kernel
theorem dX6_pieceDone_132 : decode cX6_pieceDone 132 = .ok (.lconst 0, 1) := by decide +kernel
theorem dX6_pieceDone_133 : decode cX6_pieceDone 133 = .ok (.lastore, 1) := by decide +kernel
theorem dX6_pieceDone_134 : decode cX6_pieceDone 134 = .ok (.aload_n 0, 1) := by decide +kernel
theorem dX6_pieceDone_135 : decode cX6_pieceDone 135 = .ok (.getfield 7, 3) := by decide +kernel
theorem dX6_pieceDone_138 : decode cX6_pieceDone 138 = .ok (.bipush 10, 2) := by decide +kernel
theorem dX6_pieceDone_140 : decode cX6_pieceDone 140 = .ok (.lconst 0, 1) := by decide +kernel
theorem dX6_pieceDone_141 : decode cX6_pieceDone 141 = .ok (.lastore, 1) := by decide +kernel
theorem dX6_pieceDone_142 : decode cX6_pieceDone 142 = .ok (.aload_n 0, 1) := by decide +kernel
theorem dX6_pieceDone_143 : decode cX6_pieceDone 143 = .ok (.getfield 7, 3) := by decide +kernel
theorem dX6_pieceDone_146 : decode cX6_pieceDone 146 = .ok (.bipush 11, 2) := by decide +kernel
theorem dX6_pieceDone_148 : decode cX6_pieceDone 148 = .ok (.lconst 0, 1) := by decide +kernel
theorem dX6_pieceDone_149 : decode cX6_pieceDone 149 = .ok (.lastore, 1) := by decide +kernel
theorem dX6_pieceDone_150 : decode cX6_pieceDone 150 = .ok (.aload_n 0, 1) := by decide +kernel
theorem dX6_pieceDone_151 : decode cX6_pieceDone 151 = .ok (.iload_n 1, 1) := by decide +kernel
theorem dX6_pieceDone_152 : decode cX6_pieceDone 152 = .ok (.iconst 5, 1) := by decide +kernel
theorem dX6_pieceDone_153 : decode cX6_pieceDone 153 = .ok (.invokevirtual 49, 3) := by decide +kernel
theorem dX6_pieceDone_156 : decode cX6_pieceDone 156 = .ok (.aload_n 0, 1) := by decide +kernel
theorem dX6_pieceDone_157 : decode cX6_pieceDone 157 = .ok (.iload_n 1, 1) := by decide +kernel
theorem dX6_pieceDone_158 : decode cX6_pieceDone 158 = .ok (.iconst 1, 1) := by decide +kernel
theorem dX6_pieceDone_159 : decode cX6_pieceDone 159 = .ok (.invokevirtual 49, 3) := by decide +kernel
theorem dX6_pieceDone_162 : decode cX6_pieceDone 162 = .ok (.lcmp, 1) := by decide +kernel
theorem dX6_pieceDone_163 : decode cX6_pieceDone 163 = .ok (.ifCond .ge 15, 3) := by decide +kernel
theorem dX6_pieceDone_166 : decode cX6_pieceDone 166 = .ok (.aload_n 0, 1) := by decide +kernel
theorem dX6_pieceDone_167 : decode cX6_pieceDone 167 = .ok (.getfield 7, 3) := by decide +kernel
theorem dX6_pieceDone_170 : decode cX6_pieceDone 170 = .ok (.iload_n 1, 1) := by decide +kernel
theorem dX6_pieceDone_171 : decode cX6_pieceDone 171 = .ok (.iconst 4, 1) := by decide +kernel
theorem dX6_pieceDone_172 : decode cX6_pieceDone 172 = .ok (.invokestatic 46, 3) := by decide +kernel
theorem dX6_pieceDone_175 : decode cX6_pieceDone 175 = .ok (.lconst 0, 1) := by decide +kernel
theorem dX6_pieceDone_176 : decode cX6_pieceDone 176 = .ok (.lastore, 1) := by decide +kernel
theorem dX6_pieceDone_177 : decode cX6_pieceDone 177 = .ok (.return_, 1) := by decide +kernel
theorem dX6_pieceDone_178 : decode cX6_pieceDone 178 = .ok (.aload_n 0, 1) := by decide +kernel
theorem dX6_pieceDone_179 : decode cX6_pieceDone 179 = .ok (.getfield 7, 3) := by decide +kernel
theorem dX6_pieceDone_182 : decode cX6_pieceDone 182 = .ok (.iload_n 2, 1) := by decide +kernel
theorem dX6_pieceDone_183 : decode cX6_pieceDone 183 = .ok (.bipush 17, 2) := by decide +kernel
theorem dX6_pieceDone_185 : decode cX6_pieceDone 185 = .ok (.invokestatic 40, 3) := by decide +kernel
theorem dX6_pieceDone_188 : decode cX6_pieceDone 188 = .ok (.dup2, 1) := by decide +kernel
theorem dX6_pieceDone_189 : decode cX6_pieceDone 189 = .ok (.laload, 1) := by decide +kernel
theorem dX6_pieceDone_190 : decode cX6_pieceDone 190 = .ok (.lconst 1, 1) := by decide +kernel
theorem dX6_pieceDone_191 : decode cX6_pieceDone 191 = .ok (.lsub, 1) := by decide +kernel
theorem dX6_pieceDone_192 : decode cX6_pieceDone 192 = .ok (.lastore, 1) := by decide +kernel
theorem dX6_pieceDone_193 : decode cX6_pieceDone 193 = .ok (.aload_n 0, 1) := by decide +kernel
theorem dX6_pieceDone_194 : decode cX6_pieceDone 194 = .ok (.iload_n 1, 1) := by decide +kernel
theorem dX6_pieceDone_195 : decode cX6_pieceDone 195 = .ok (.bipush 6, 2) := by decide +kernel
theorem dX6_pieceDone_197 : decode cX6_pieceDone 197 = .ok (.invokevirtual 49, 3) := by decide +kernel
theorem dX6_pieceDone_200 : decode cX6_pieceDone 200 = .ok (.lconst 1, 1) := by decide +kernel
theorem dX6_pieceDone_201 : decode cX6_pieceDone 201 = .ok (.lcmp, 1) := by decide +kernel
theorem dX6_pieceDone_202 : decode cX6_pieceDone 202 = .ok (.ifCond .le 41, 3) := by decide +kernel
theorem dX6_pieceDone_205 : decode cX6_pieceDone 205 = .ok (.aload_n 0, 1) := by decide +kernel
theorem dX6_pieceDone_206 : decode cX6_pieceDone 206 = .ok (.getfield 7, 3) := by decide +kernel
theorem dX6_pieceDone_209 : decode cX6_pieceDone 209 = .ok (.iconst 4, 1) := by decide +kernel
theorem dX6_pieceDone_210 : decode cX6_pieceDone 210 = .ok (.laload, 1) := by decide +kernel
theorem dX6_pieceDone_211 : decode cX6_pieceDone 211 = .ok (.lconst 0, 1) := by decide +kernel
theorem dX6_pieceDone_212 : decode cX6_pieceDone 212 = .ok (.lcmp, 1) := by decide +kernel
theorem dX6_pieceDone_213 : decode cX6_pieceDone 213 = .ok (.ifCond .le 30, 3) := by decide +kernel
theorem dX6_pieceDone_216 : decode cX6_pieceDone 216 = .ok (.aload_n 0, 1) := by decide +kernel
theorem dX6_pieceDone_217 : decode cX6_pieceDone 217 = .ok (.getfield 7, 3) := by decide +kernel
theorem dX6_pieceDone_220 : decode cX6_pieceDone 220 = .ok (.iload_n 1, 1) := by decide +kernel
theorem dX6_pieceDone_221 : decode cX6_pieceDone 221 = .ok (.iconst 4, 1) := by decide +kernel
theorem dX6_pieceDone_222 : decode cX6_pieceDone 222 = .ok (.invokestatic 46, 3) := by decide +kernel
theorem dX6_pieceDone_225 : decode cX6_pieceDone 225 = .ok (.ldc2_w 30, 3) := by decide +kernel
theorem dX6_pieceDone_228 : decode cX6_pieceDone 228 = .ok (.lastore, 1) := by decide +kernel
theorem dX6_pieceDone_229 : decode cX6_pieceDone 229 = .ok (.aload_n 0, 1) := by decide +kernel
theorem dX6_pieceDone_230 : decode cX6_pieceDone 230 = .ok (.getfield 7, 3) := by decide +kernel
theorem dX6_pieceDone_233 : decode cX6_pieceDone 233 = .ok (.bipush 16, 2) := by decide +kernel
theorem dX6_pieceDone_235 : decode cX6_pieceDone 235 = .ok (.dup2, 1) := by decide +kernel
theorem dX6_pieceDone_236 : decode cX6_pieceDone 236 = .ok (.laload, 1) := by decide +kernel
theorem dX6_pieceDone_237 : decode cX6_pieceDone 237 = .ok (.lconst 1, 1) := by decide +kernel
theorem dX6_pieceDone_238 : decode cX6_pieceDone 238 = .ok (.ladd, 1) := by decide +kernel
theorem dX6_pieceDone_239 : decode cX6_pieceDone 239 = .ok (.lastore, 1) := by decide +kernel
theorem dX6_pieceDone_240 : decode cX6_pieceDone 240 = .ok (.goto 8, 3) := by decide +kernel
theorem dX6_pieceDone_243 : decode cX6_pieceDone 243 = .ok (.aload_n 0, 1) := by decide +kernel
theorem dX6_pieceDone_244 : decode cX6_pieceDone 244 = .ok (.iload_n 1, 1) := by decide +kernel
theorem dX6_pieceDone_245 : decode cX6_pieceDone 245 = .ok (.invokevirtual 163, 3) := by decide +kernel
theorem dX6_pieceDone_248 : decode cX6_pieceDone 248 = .ok (.return_, 1) := by decide +kernel
theorem dX6_joinAll_0 : decode cX6_joinAll 0 = .ok (.aload_n 0, 1) := by decide +kernel
theorem dX6_joinAll_1 : decode cX6_joinAll 1 = .ok (.invokevirtual 56, 3) := by decide +kernel
theorem dX6_joinAll_4 : decode cX6_joinAll 4 = .ok (.istore_n 1, 1) := by decide +kernel
theorem dX6_joinAll_5 : decode cX6_joinAll 5 = .ok (.iload_n 1, 1) := by decide +kernel
theorem dX6_joinAll_6 : decode cX6_joinAll 6 = .ok (.i2l, 1) := by decide +kernel
theorem dX6_joinAll_7 : decode cX6_joinAll 7 = .ok (.aload_n 0, 1) := by decide +kernel
theorem dX6_joinAll_8 : decode cX6_joinAll 8 = .ok (.getfield 7, 3) := by decide +kernel
theorem dX6_joinAll_11 : decode cX6_joinAll 11 = .ok (.bipush 7, 2) := by decide +kernel
theorem dX6_joinAll_13 : decode cX6_joinAll 13 = .ok (.laload, 1) := by decide +kernel
theorem dX6_joinAll_14 : decode cX6_joinAll 14 = .ok (.lcmp, 1) := by decide +kernel
theorem dX6_joinAll_15 : decode cX6_joinAll 15 = .ok (.ifCond .ge 74, 3) := by decide +kernel
theorem dX6_joinAll_18 : decode cX6_joinAll 18 = .ok (.aload_n 0, 1) := by decide +kernel
theorem dX6_joinAll_19 : decode cX6_joinAll 19 = .ok (.getfield 7, 3) := by decide +kernel
theorem dX6_joinAll_22 : decode cX6_joinAll 22 = .ok (.bipush 16, 2) := by decide +kernel
theorem dX6_joinAll_24 : decode cX6_joinAll 24 = .ok (.laload, 1) := by decide +kernel
theorem dX6_joinAll_25 : decode cX6_joinAll 25 = .ok (.lconst 0, 1) := by decide +kernel
theorem dX6_joinAll_26 : decode cX6_joinAll 26 = .ok (.lcmp, 1) := by decide +kernel
theorem dX6_joinAll_27 : decode cX6_joinAll 27 = .ok (.ifCond .le 62, 3) := by decide +kernel
theorem dX6_joinAll_30 : decode cX6_joinAll 30 = .ok (.aload_n 0, 1) := by decide +kernel
theorem dX6_joinAll_31 : decode cX6_joinAll 31 = .ok (.iload_n 1, 1) := by decide +kernel
theorem dX6_joinAll_32 : decode cX6_joinAll 32 = .ok (.iconst 4, 1) := by decide +kernel
theorem dX6_joinAll_33 : decode cX6_joinAll 33 = .ok (.invokevirtual 49, 3) := by decide +kernel
theorem dX6_joinAll_36 : decode cX6_joinAll 36 = .ok (.ldc2_w 30, 3) := by decide +kernel
theorem dX6_joinAll_39 : decode cX6_joinAll 39 = .ok (.lcmp, 1) := by decide +kernel
theorem dX6_joinAll_40 : decode cX6_joinAll 40 = .ok (.ifCond .ne 43, 3) := by decide +kernel
theorem dX6_joinAll_43 : decode cX6_joinAll 43 = .ok (.aload_n 0, 1) := by decide +kernel
theorem dX6_joinAll_44 : decode cX6_joinAll 44 = .ok (.getfield 7, 3) := by decide +kernel
theorem dX6_joinAll_47 : decode cX6_joinAll 47 = .ok (.iconst 0, 1) := by decide +kernel
theorem dX6_joinAll_48 : decode cX6_joinAll 48 = .ok (.laload, 1) := by decide +kernel
theorem dX6_joinAll_49 : decode cX6_joinAll 49 = .ok (.aload_n 0, 1) := by decide +kernel
theorem dX6_joinAll_50 : decode cX6_joinAll 50 = .ok (.iload_n 1, 1) := by decide +kernel
theorem dX6_joinAll_51 : decode cX6_joinAll 51 = .ok (.bipush 10, 2) := by decide +kernel
theorem dX6_joinAll_53 : decode cX6_joinAll 53 = .ok (.invokevirtual 49, 3) := by decide +kernel
theorem dX6_joinAll_56 : decode cX6_joinAll 56 = .ok (.lsub, 1) := by decide +kernel
theorem dX6_joinAll_57 : decode cX6_joinAll 57 = .ok (.aload_n 0, 1) := by decide +kernel
theorem dX6_joinAll_58 : decode cX6_joinAll 58 = .ok (.getfield 7, 3) := by decide +kernel
theorem dX6_joinAll_61 : decode cX6_joinAll 61 = .ok (.iconst 4, 1) := by decide +kernel
theorem dX6_joinAll_62 : decode cX6_joinAll 62 = .ok (.laload, 1) := by decide +kernel
theorem dX6_joinAll_63 : decode cX6_joinAll 63 = .ok (.lcmp, 1) := by decide +kernel
theorem dX6_joinAll_64 : decode cX6_joinAll 64 = .ok (.ifCond .lt 19, 3) := by decide +kernel
theorem dX6_joinAll_67 : decode cX6_joinAll 67 = .ok (.aload_n 0, 1) := by decide +kernel
theorem dX6_joinAll_68 : decode cX6_joinAll 68 = .ok (.getfield 7, 3) := by decide +kernel
theorem dX6_joinAll_71 : decode cX6_joinAll 71 = .ok (.bipush 16, 2) := by decide +kernel
theorem dX6_joinAll_73 : decode cX6_joinAll 73 = .ok (.dup2, 1) := by decide +kernel
theorem dX6_joinAll_74 : decode cX6_joinAll 74 = .ok (.laload, 1) := by decide +kernel
theorem dX6_joinAll_75 : decode cX6_joinAll 75 = .ok (.lconst 1, 1) := by decide +kernel
theorem dX6_joinAll_76 : decode cX6_joinAll 76 = .ok (.lsub, 1) := by decide +kernel
theorem dX6_joinAll_77 : decode cX6_joinAll 77 = .ok (.lastore, 1) := by decide +kernel
theorem dX6_joinAll_78 : decode cX6_joinAll 78 = .ok (.aload_n 0, 1) := by decide +kernel
theorem dX6_joinAll_79 : decode cX6_joinAll 79 = .ok (.iload_n 1, 1) := by decide +kernel
theorem dX6_joinAll_80 : decode cX6_joinAll 80 = .ok (.invokevirtual 163, 3) := by decide +kernel
theorem dX6_joinAll_83 : decode cX6_joinAll 83 = .ok (.iinc 1 1, 3) := by decide +kernel
theorem dX6_joinAll_86 : decode cX6_joinAll 86 = .ok (.goto (-81), 3) := by decide +kernel
theorem dX6_joinAll_89 : decode cX6_joinAll 89 = .ok (.return_, 1) := by decide +kernel
theorem dX6_idle_0 : decode cX6_idle 0 = .ok (.iload_n 1, 1) := by decide +kernel
theorem dX6_idle_1 : decode cX6_idle 1 = .ok (.iconst 0, 1) := by decide +kernel
theorem dX6_idle_2 : decode cX6_idle 2 = .ok (.invokestatic 40, 3) := by decide +kernel
theorem dX6_idle_5 : decode cX6_idle 5 = .ok (.istore_n 2, 1) := by decide +kernel
theorem dX6_idle_6 : decode cX6_idle 6 = .ok (.aload_n 0, 1) := by decide +kernel
theorem dX6_idle_7 : decode cX6_idle 7 = .ok (.getfield 7, 3) := by decide +kernel
theorem dX6_idle_10 : decode cX6_idle 10 = .ok (.iload_n 2, 1) := by decide +kernel
theorem dX6_idle_11 : decode cX6_idle 11 = .ok (.iconst 5, 1) := by decide +kernel
theorem dX6_idle_12 : decode cX6_idle 12 = .ok (.iadd, 1) := by decide +kernel
theorem dX6_idle_13 : decode cX6_idle 13 = .ok (.aload_n 0, 1) := by decide +kernel
theorem dX6_idle_14 : decode cX6_idle 14 = .ok (.getfield 7, 3) := by decide +kernel
theorem dX6_idle_17 : decode cX6_idle 17 = .ok (.iload_n 2, 1) := by decide +kernel
theorem dX6_idle_18 : decode cX6_idle 18 = .ok (.bipush 17, 2) := by decide +kernel
theorem dX6_idle_20 : decode cX6_idle 20 = .ok (.iadd, 1) := by decide +kernel
theorem dX6_idle_21 : decode cX6_idle 21 = .ok (.laload, 1) := by decide +kernel
theorem dX6_idle_22 : decode cX6_idle 22 = .ok (.lconst 0, 1) := by decide +kernel
theorem dX6_idle_23 : decode cX6_idle 23 = .ok (.lcmp, 1) := by decide +kernel
theorem dX6_idle_24 : decode cX6_idle 24 = .ok (.ifCond .ne 16, 3) := by decide +kernel
theorem dX6_idle_27 : decode cX6_idle 27 = .ok (.aload_n 0, 1) := by decide +kernel
theorem dX6_idle_28 : decode cX6_idle 28 = .ok (.getfield 7, 3) := by decide +kernel
theorem dX6_idle_31 : decode cX6_idle 31 = .ok (.iload_n 2, 1) := by decide +kernel
theorem dX6_idle_32 : decode cX6_idle 32 = .ok (.iconst 5, 1) := by decide +kernel
theorem dX6_idle_33 : decode cX6_idle 33 = .ok (.iadd, 1) := by decide +kernel
theorem dX6_idle_34 : decode cX6_idle 34 = .ok (.laload, 1) := by decide +kernel
theorem dX6_idle_35 : decode cX6_idle 35 = .ok (.lconst 1, 1) := by decide +kernel
theorem dX6_idle_36 : decode cX6_idle 36 = .ok (.ladd, 1) := by decide +kernel
theorem dX6_idle_37 : decode cX6_idle 37 = .ok (.goto 4, 3) := by decide +kernel
theorem dX6_idle_40 : decode cX6_idle 40 = .ok (.lconst 0, 1) := by decide +kernel
theorem dX6_idle_41 : decode cX6_idle 41 = .ok (.lastore, 1) := by decide +kernel
theorem dX6_idle_42 : decode cX6_idle 42 = .ok (.aload_n 0, 1) := by decide +kernel
theorem dX6_idle_43 : decode cX6_idle 43 = .ok (.getfield 7, 3) := by decide +kernel
theorem dX6_idle_46 : decode cX6_idle 46 = .ok (.iload_n 2, 1) := by decide +kernel
theorem dX6_idle_47 : decode cX6_idle 47 = .ok (.iconst 3, 1) := by decide +kernel
theorem dX6_idle_48 : decode cX6_idle 48 = .ok (.iadd, 1) := by decide +kernel
theorem dX6_idle_49 : decode cX6_idle 49 = .ok (.laload, 1) := by decide +kernel
theorem dX6_idle_50 : decode cX6_idle 50 = .ok (.lconst 0, 1) := by decide +kernel
theorem dX6_idle_51 : decode cX6_idle 51 = .ok (.lcmp, 1) := by decide +kernel
theorem dX6_idle_52 : decode cX6_idle 52 = .ok (.ifCond .le 40, 3) := by decide +kernel
theorem dX6_idle_55 : decode cX6_idle 55 = .ok (.aload_n 0, 1) := by decide +kernel
theorem dX6_idle_56 : decode cX6_idle 56 = .ok (.getfield 7, 3) := by decide +kernel
theorem dX6_idle_59 : decode cX6_idle 59 = .ok (.iload_n 2, 1) := by decide +kernel
theorem dX6_idle_60 : decode cX6_idle 60 = .ok (.iconst 4, 1) := by decide +kernel
theorem dX6_idle_61 : decode cX6_idle 61 = .ok (.iadd, 1) := by decide +kernel
theorem dX6_idle_62 : decode cX6_idle 62 = .ok (.laload, 1) := by decide +kernel
theorem dX6_idle_63 : decode cX6_idle 63 = .ok (.lconst 0, 1) := by decide +kernel
theorem dX6_idle_64 : decode cX6_idle 64 = .ok (.lcmp, 1) := by decide +kernel
theorem dX6_idle_65 : decode cX6_idle 65 = .ok (.ifCond .le 27, 3) := by decide +kernel
theorem dX6_idle_68 : decode cX6_idle 68 = .ok (.aload_n 0, 1) := by decide +kernel
theorem dX6_idle_69 : decode cX6_idle 69 = .ok (.getfield 7, 3) := by decide +kernel
theorem dX6_idle_72 : decode cX6_idle 72 = .ok (.iload_n 2, 1) := by decide +kernel
theorem dX6_idle_73 : decode cX6_idle 73 = .ok (.iconst 5, 1) := by decide +kernel
theorem dX6_idle_74 : decode cX6_idle 74 = .ok (.iadd, 1) := by decide +kernel
theorem dX6_idle_75 : decode cX6_idle 75 = .ok (.laload, 1) := by decide +kernel
theorem dX6_idle_76 : decode cX6_idle 76 = .ok (.aload_n 0, 1) := by decide +kernel
theorem dX6_idle_77 : decode cX6_idle 77 = .ok (.getfield 7, 3) := by decide +kernel
theorem dX6_idle_80 : decode cX6_idle 80 = .ok (.iload_n 2, 1) := by decide +kernel
theorem dX6_idle_81 : decode cX6_idle 81 = .ok (.iconst 3, 1) := by decide +kernel
theorem dX6_idle_82 : decode cX6_idle 82 = .ok (.iadd, 1) := by decide +kernel
theorem dX6_idle_83 : decode cX6_idle 83 = .ok (.laload, 1) := by decide +kernel
theorem dX6_idle_84 : decode cX6_idle 84 = .ok (.lcmp, 1) := by decide +kernel
theorem dX6_idle_85 : decode cX6_idle 85 = .ok (.ifCond .lt 7, 3) := by decide +kernel
theorem dX6_idle_88 : decode cX6_idle 88 = .ok (.iconst 1, 1) := by decide +kernel
theorem dX6_idle_89 : decode cX6_idle 89 = .ok (.goto 4, 3) := by decide +kernel
theorem dX6_idle_92 : decode cX6_idle 92 = .ok (.iconst 0, 1) := by decide +kernel
theorem dX6_idle_93 : decode cX6_idle 93 = .ok (.istore_n 3, 1) := by decide +kernel
theorem dX6_idle_94 : decode cX6_idle 94 = .ok (.iload_n 3, 1) := by decide +kernel
theorem dX6_idle_95 : decode cX6_idle 95 = .ok (.ifCond .eq 97, 3) := by decide +kernel
theorem dX6_idle_98 : decode cX6_idle 98 = .ok (.aload_n 0, 1) := by decide +kernel
theorem dX6_idle_99 : decode cX6_idle 99 = .ok (.getfield 7, 3) := by decide +kernel
theorem dX6_idle_102 : decode cX6_idle 102 = .ok (.iload_n 2, 1) := by decide +kernel
theorem dX6_idle_103 : decode cX6_idle 103 = .ok (.iconst 5, 1) := by decide +kernel
theorem dX6_idle_104 : decode cX6_idle 104 = .ok (.iadd, 1) := by decide +kernel
theorem dX6_idle_105 : decode cX6_idle 105 = .ok (.lconst 0, 1) := by decide +kernel
theorem dX6_idle_106 : decode cX6_idle 106 = .ok (.lastore, 1) := by decide +kernel
theorem dX6_idle_107 : decode cX6_idle 107 = .ok (.aload_n 0, 1) := by decide +kernel
theorem dX6_idle_108 : decode cX6_idle 108 = .ok (.getfield 7, 3) := by decide +kernel
theorem dX6_idle_111 : decode cX6_idle 111 = .ok (.iload_n 2, 1) := by decide +kernel
theorem dX6_idle_112 : decode cX6_idle 112 = .ok (.bipush 12, 2) := by decide +kernel
theorem dX6_idle_114 : decode cX6_idle 114 = .ok (.iadd, 1) := by decide +kernel
theorem dX6_idle_115 : decode cX6_idle 115 = .ok (.laload, 1) := by decide +kernel
theorem dX6_idle_116 : decode cX6_idle 116 = .ok (.aload_n 0, 1) := by decide +kernel
theorem dX6_idle_117 : decode cX6_idle 117 = .ok (.getfield 7, 3) := by decide +kernel
theorem dX6_idle_120 : decode cX6_idle 120 = .ok (.iconst 1, 1) := by decide +kernel
theorem dX6_idle_121 : decode cX6_idle 121 = .ok (.laload, 1) := by decide +kernel
theorem dX6_idle_122 : decode cX6_idle 122 = .ok (.lsub, 1) := by decide +kernel
theorem dX6_idle_123 : decode cX6_idle 123 = .ok (.lstore 4, 2) := by decide +kernel
theorem dX6_idle_125 : decode cX6_idle 125 = .ok (.lload 4, 2) := by decide +kernel
theorem dX6_idle_127 : decode cX6_idle 127 = .ok (.lconst 0, 1) := by decide +kernel
theorem dX6_idle_128 : decode cX6_idle 128 = .ok (.lcmp, 1) := by decide +kernel
theorem dX6_idle_129 : decode cX6_idle 129 = .ok (.ifCond .le 63, 3) := by decide +kernel
theorem dX6_idle_132 : decode cX6_idle 132 = .ok (.aload_n 0, 1) := by decide +kernel
theorem dX6_idle_133 : decode cX6_idle 133 = .ok (.getfield 7, 3) := by decide +kernel
theorem dX6_idle_136 : decode cX6_idle 136 = .ok (.iload_n 2, 1) := by decide +kernel
theorem dX6_idle_137 : decode cX6_idle 137 = .ok (.iconst 4, 1) := by decide +kernel
theorem dX6_idle_138 : decode cX6_idle 138 = .ok (.iadd, 1) := by decide +kernel
theorem dX6_idle_139 : decode cX6_idle 139 = .ok (.laload, 1) := by decide +kernel
theorem dX6_idle_140 : decode cX6_idle 140 = .ok (.lconst 1, 1) := by decide +kernel
theorem dX6_idle_141 : decode cX6_idle 141 = .ok (.lcmp, 1) := by decide +kernel
theorem dX6_idle_142 : decode cX6_idle 142 = .ok (.ifCond .ne 12, 3) := by decide +kernel
theorem dX6_idle_145 : decode cX6_idle 145 = .ok (.lload 4, 2) := by decide +kernel
theorem dX6_idle_147 : decode cX6_idle 147 = .ok (.ldc2_w 30, 3) := by decide +kernel
theorem dX6_idle_150 : decode cX6_idle 150 = .ok (.ldiv, 1) := by decide +kernel
theorem dX6_idle_151 : decode cX6_idle 151 = .ok (.goto 4, 3) := by decide +kernel
theorem dX6_idle_154 : decode cX6_idle 154 = .ok (.lconst 0, 1) := by decide +kernel
theorem dX6_idle_155 : decode cX6_idle 155 = .ok (.lstore 6, 2) := by decide +kernel
theorem dX6_idle_157 : decode cX6_idle 157 = .ok (.aload_n 0, 1) := by decide +kernel
theorem dX6_idle_158 : decode cX6_idle 158 = .ok (.getfield 7, 3) := by decide +kernel
theorem dX6_idle_161 : decode cX6_idle 161 = .ok (.iload_n 2, 1) := by decide +kernel
theorem dX6_idle_162 : decode cX6_idle 162 = .ok (.bipush 12, 2) := by decide +kernel
theorem dX6_idle_164 : decode cX6_idle 164 = .ok (.iadd, 1) := by decide +kernel
theorem dX6_idle_165 : decode cX6_idle 165 = .ok (.aload_n 0, 1) := by decide +kernel
theorem dX6_idle_166 : decode cX6_idle 166 = .ok (.getfield 7, 3) := by decide +kernel
theorem dX6_idle_169 : decode cX6_idle 169 = .ok (.iconst 1, 1) := by decide +kernel
theorem dX6_idle_170 : decode cX6_idle 170 = .ok (.laload, 1) := by decide +kernel
theorem dX6_idle_171 : decode cX6_idle 171 = .ok (.lload 6, 2) := by decide +kernel
theorem dX6_idle_173 : decode cX6_idle 173 = .ok (.ladd, 1) := by decide +kernel
theorem dX6_idle_174 : decode cX6_idle 174 = .ok (.lastore, 1) := by decide +kernel
theorem dX6_idle_175 : decode cX6_idle 175 = .ok (.aload_n 0, 1) := by decide +kernel
theorem dX6_idle_176 : decode cX6_idle 176 = .ok (.getfield 7, 3) := by decide +kernel
theorem dX6_idle_179 : decode cX6_idle 179 = .ok (.iload_n 2, 1) := by decide +kernel
theorem dX6_idle_180 : decode cX6_idle 180 = .ok (.bipush 13, 2) := by decide +kernel
theorem dX6_idle_182 : decode cX6_idle 182 = .ok (.iadd, 1) := by decide +kernel
theorem dX6_idle_183 : decode cX6_idle 183 = .ok (.dup2, 1) := by decide +kernel
theorem dX6_idle_184 : decode cX6_idle 184 = .ok (.laload, 1) := by decide +kernel
theorem dX6_idle_185 : decode cX6_idle 185 = .ok (.lload 4, 2) := by decide +kernel
theorem dX6_idle_187 : decode cX6_idle 187 = .ok (.lload 6, 2) := by decide +kernel
theorem dX6_idle_189 : decode cX6_idle 189 = .ok (.lsub, 1) := by decide +kernel
theorem dX6_idle_190 : decode cX6_idle 190 = .ok (.ladd, 1) := by decide +kernel
theorem dX6_idle_191 : decode cX6_idle 191 = .ok (.lastore, 1) := by decide +kernel
theorem dX6_idle_192 : decode cX6_idle 192 = .ok (.return_, 1) := by decide +kernel
theorem dX6_flowOn_0 : decode cX6_flowOn 0 = .ok (.lconst 0, 1) := by decide +kernel
theorem dX6_flowOn_1 : decode cX6_flowOn 1 = .ok (.lstore_n 1, 1) := by decide +kernel
theorem dX6_flowOn_2 : decode cX6_flowOn 2 = .ok (.iconst 0, 1) := by decide +kernel
theorem dX6_flowOn_3 : decode cX6_flowOn 3 = .ok (.istore_n 3, 1) := by decide +kernel
theorem dX6_flowOn_4 : decode cX6_flowOn 4 = .ok (.iload_n 3, 1) := by decide +kernel
theorem dX6_flowOn_5 : decode cX6_flowOn 5 = .ok (.i2l, 1) := by decide +kernel
theorem dX6_flowOn_6 : decode cX6_flowOn 6 = .ok (.aload_n 0, 1) := by decide +kernel
theorem dX6_flowOn_7 : decode cX6_flowOn 7 = .ok (.getfield 7, 3) := by decide +kernel
theorem dX6_flowOn_10 : decode cX6_flowOn 10 = .ok (.iconst 2, 1) := by decide +kernel
theorem dX6_flowOn_11 : decode cX6_flowOn 11 = .ok (.laload, 1) := by decide +kernel
theorem dX6_flowOn_12 : decode cX6_flowOn 12 = .ok (.lcmp, 1) := by decide +kernel
theorem dX6_flowOn_13 : decode cX6_flowOn 13 = .ok (.ifCond .ge 34, 3) := by decide +kernel
theorem dX6_flowOn_16 : decode cX6_flowOn 16 = .ok (.lload_n 1, 1) := by decide +kernel
theorem dX6_flowOn_17 : decode cX6_flowOn 17 = .ok (.aload_n 0, 1) := by decide +kernel
theorem dX6_flowOn_18 : decode cX6_flowOn 18 = .ok (.iload_n 3, 1) := by decide +kernel
theorem dX6_flowOn_19 : decode cX6_flowOn 19 = .ok (.bipush 14, 2) := by decide +kernel
theorem dX6_flowOn_21 : decode cX6_flowOn 21 = .ok (.invokevirtual 53, 3) := by decide +kernel
theorem dX6_flowOn_24 : decode cX6_flowOn 24 = .ok (.lconst 0, 1) := by decide +kernel
theorem dX6_flowOn_25 : decode cX6_flowOn 25 = .ok (.lcmp, 1) := by decide +kernel
theorem dX6_flowOn_26 : decode cX6_flowOn 26 = .ok (.ifCond .le 12, 3) := by decide +kernel
theorem dX6_flowOn_29 : decode cX6_flowOn 29 = .ok (.aload_n 0, 1) := by decide +kernel
theorem dX6_flowOn_30 : decode cX6_flowOn 30 = .ok (.iload_n 3, 1) := by decide +kernel
theorem dX6_flowOn_31 : decode cX6_flowOn 31 = .ok (.iconst 0, 1) := by decide +kernel
theorem dX6_flowOn_32 : decode cX6_flowOn 32 = .ok (.invokevirtual 53, 3) := by decide +kernel
theorem dX6_flowOn_35 : decode cX6_flowOn 35 = .ok (.goto 4, 3) := by decide +kernel
theorem dX6_flowOn_38 : decode cX6_flowOn 38 = .ok (.lconst 0, 1) := by decide +kernel
theorem dX6_flowOn_39 : decode cX6_flowOn 39 = .ok (.ladd, 1) := by decide +kernel
theorem dX6_flowOn_40 : decode cX6_flowOn 40 = .ok (.lstore_n 1, 1) := by decide +kernel
theorem dX6_flowOn_41 : decode cX6_flowOn 41 = .ok (.iinc 3 1, 3) := by decide +kernel
theorem dX6_flowOn_44 : decode cX6_flowOn 44 = .ok (.goto (-40), 3) := by decide +kernel
theorem dX6_flowOn_47 : decode cX6_flowOn 47 = .ok (.iconst 0, 1) := by decide +kernel
theorem dX6_flowOn_48 : decode cX6_flowOn 48 = .ok (.istore_n 3, 1) := by decide +kernel
theorem dX6_flowOn_49 : decode cX6_flowOn 49 = .ok (.iload_n 3, 1) := by decide +kernel
theorem dX6_flowOn_50 : decode cX6_flowOn 50 = .ok (.i2l, 1) := by decide +kernel
theorem dX6_flowOn_51 : decode cX6_flowOn 51 = .ok (.aload_n 0, 1) := by decide +kernel
theorem dX6_flowOn_52 : decode cX6_flowOn 52 = .ok (.getfield 7, 3) := by decide +kernel
theorem dX6_flowOn_55 : decode cX6_flowOn 55 = .ok (.iconst 2, 1) := by decide +kernel
theorem dX6_flowOn_56 : decode cX6_flowOn 56 = .ok (.laload, 1) := by decide +kernel
theorem dX6_flowOn_57 : decode cX6_flowOn 57 = .ok (.lcmp, 1) := by decide +kernel
theorem dX6_flowOn_58 : decode cX6_flowOn 58 = .ok (.ifCond .ge 94, 3) := by decide +kernel
theorem dX6_flowOn_61 : decode cX6_flowOn 61 = .ok (.aload_n 0, 1) := by decide +kernel
theorem dX6_flowOn_62 : decode cX6_flowOn 62 = .ok (.iload_n 3, 1) := by decide +kernel
theorem dX6_flowOn_63 : decode cX6_flowOn 63 = .ok (.bipush 14, 2) := by decide +kernel
theorem dX6_flowOn_65 : decode cX6_flowOn 65 = .ok (.invokevirtual 53, 3) := by decide +kernel
theorem dX6_flowOn_68 : decode cX6_flowOn 68 = .ok (.lconst 0, 1) := by decide +kernel
theorem dX6_flowOn_69 : decode cX6_flowOn 69 = .ok (.lcmp, 1) := by decide +kernel
theorem dX6_flowOn_70 : decode cX6_flowOn 70 = .ok (.ifCond .le 76, 3) := by decide +kernel
theorem dX6_flowOn_73 : decode cX6_flowOn 73 = .ok (.ldc2_w 81, 3) := by decide +kernel
theorem dX6_flowOn_76 : decode cX6_flowOn 76 = .ok (.aload_n 0, 1) := by decide +kernel
theorem dX6_flowOn_77 : decode cX6_flowOn 77 = .ok (.iload_n 3, 1) := by decide +kernel
theorem dX6_flowOn_78 : decode cX6_flowOn 78 = .ok (.iconst 0, 1) := by decide +kernel
theorem dX6_flowOn_79 : decode cX6_flowOn 79 = .ok (.invokevirtual 53, 3) := by decide +kernel
theorem dX6_flowOn_82 : decode cX6_flowOn 82 = .ok (.lmul, 1) := by decide +kernel
theorem dX6_flowOn_83 : decode cX6_flowOn 83 = .ok (.lload_n 1, 1) := by decide +kernel
theorem dX6_flowOn_84 : decode cX6_flowOn 84 = .ok (.ldiv, 1) := by decide +kernel
theorem dX6_flowOn_85 : decode cX6_flowOn 85 = .ok (.lstore 4, 2) := by decide +kernel
theorem dX6_flowOn_87 : decode cX6_flowOn 87 = .ok (.lload 4, 2) := by decide +kernel
theorem dX6_flowOn_89 : decode cX6_flowOn 89 = .ok (.aload_n 0, 1) := by decide +kernel
theorem dX6_flowOn_90 : decode cX6_flowOn 90 = .ok (.iload_n 3, 1) := by decide +kernel
theorem dX6_flowOn_91 : decode cX6_flowOn 91 = .ok (.bipush 14, 2) := by decide +kernel
theorem dX6_flowOn_93 : decode cX6_flowOn 93 = .ok (.invokevirtual 53, 3) := by decide +kernel
theorem dX6_flowOn_96 : decode cX6_flowOn 96 = .ok (.lcmp, 1) := by decide +kernel
theorem dX6_flowOn_97 : decode cX6_flowOn 97 = .ok (.ifCond .ge 8, 3) := by decide +kernel
theorem dX6_flowOn_100 : decode cX6_flowOn 100 = .ok (.lload 4, 2) := by decide +kernel
theorem dX6_flowOn_102 : decode cX6_flowOn 102 = .ok (.goto 10, 3) := by decide +kernel
theorem dX6_flowOn_105 : decode cX6_flowOn 105 = .ok (.aload_n 0, 1) := by decide +kernel
theorem dX6_flowOn_106 : decode cX6_flowOn 106 = .ok (.iload_n 3, 1) := by decide +kernel
theorem dX6_flowOn_107 : decode cX6_flowOn 107 = .ok (.bipush 14, 2) := by decide +kernel
theorem dX6_flowOn_109 : decode cX6_flowOn 109 = .ok (.invokevirtual 53, 3) := by decide +kernel
theorem dX6_flowOn_112 : decode cX6_flowOn 112 = .ok (.lstore 4, 2) := by decide +kernel
theorem dX6_flowOn_114 : decode cX6_flowOn 114 = .ok (.aload_n 0, 1) := by decide +kernel
theorem dX6_flowOn_115 : decode cX6_flowOn 115 = .ok (.getfield 7, 3) := by decide +kernel
theorem dX6_flowOn_118 : decode cX6_flowOn 118 = .ok (.iload_n 3, 1) := by decide +kernel
theorem dX6_flowOn_119 : decode cX6_flowOn 119 = .ok (.bipush 14, 2) := by decide +kernel
theorem dX6_flowOn_121 : decode cX6_flowOn 121 = .ok (.invokestatic 40, 3) := by decide +kernel
theorem dX6_flowOn_124 : decode cX6_flowOn 124 = .ok (.dup2, 1) := by decide +kernel
theorem dX6_flowOn_125 : decode cX6_flowOn 125 = .ok (.laload, 1) := by decide +kernel
theorem dX6_flowOn_126 : decode cX6_flowOn 126 = .ok (.lload 4, 2) := by decide +kernel
theorem dX6_flowOn_128 : decode cX6_flowOn 128 = .ok (.lsub, 1) := by decide +kernel
theorem dX6_flowOn_129 : decode cX6_flowOn 129 = .ok (.lastore, 1) := by decide +kernel
theorem dX6_flowOn_130 : decode cX6_flowOn 130 = .ok (.aload_n 0, 1) := by decide +kernel
theorem dX6_flowOn_131 : decode cX6_flowOn 131 = .ok (.getfield 7, 3) := by decide +kernel
theorem dX6_flowOn_134 : decode cX6_flowOn 134 = .ok (.iload_n 3, 1) := by decide +kernel
theorem dX6_flowOn_135 : decode cX6_flowOn 135 = .ok (.bipush 15, 2) := by decide +kernel
theorem dX6_flowOn_137 : decode cX6_flowOn 137 = .ok (.invokestatic 40, 3) := by decide +kernel
theorem dX6_flowOn_140 : decode cX6_flowOn 140 = .ok (.dup2, 1) := by decide +kernel
theorem dX6_flowOn_141 : decode cX6_flowOn 141 = .ok (.laload, 1) := by decide +kernel
theorem dX6_flowOn_142 : decode cX6_flowOn 142 = .ok (.lload 4, 2) := by decide +kernel
theorem dX6_flowOn_144 : decode cX6_flowOn 144 = .ok (.ladd, 1) := by decide +kernel
theorem dX6_flowOn_145 : decode cX6_flowOn 145 = .ok (.lastore, 1) := by decide +kernel
theorem dX6_flowOn_146 : decode cX6_flowOn 146 = .ok (.iinc 3 1, 3) := by decide +kernel
theorem dX6_flowOn_149 : decode cX6_flowOn 149 = .ok (.goto (-100), 3) := by decide +kernel
theorem dX6_flowOn_152 : decode cX6_flowOn 152 = .ok (.return_, 1) := by decide +kernel
theorem dX6_tagOf_0 : decode cX6_tagOf 0 = .ok (.aload_n 0, 1) := by decide +kernel
theorem dX6_tagOf_1 : decode cX6_tagOf 1 = .ok (.iload_n 1, 1) := by decide +kernel
theorem dX6_tagOf_2 : decode cX6_tagOf 2 = .ok (.invokevirtual 166, 3) := by decide +kernel
theorem dX6_tagOf_5 : decode cX6_tagOf 5 = .ok (.istore_n 2, 1) := by decide +kernel
theorem dX6_tagOf_6 : decode cX6_tagOf 6 = .ok (.iload_n 2, 1) := by decide +kernel
theorem dX6_tagOf_7 : decode cX6_tagOf 7 = .ok (.ifCond .ge 13, 3) := by decide +kernel
theorem dX6_tagOf_10 : decode cX6_tagOf 10 = .ok (.aload_n 0, 1) := by decide +kernel
theorem dX6_tagOf_11 : decode cX6_tagOf 11 = .ok (.iload_n 1, 1) := by decide +kernel
theorem dX6_tagOf_12 : decode cX6_tagOf 12 = .ok (.bipush 12, 2) := by decide +kernel
theorem dX6_tagOf_14 : decode cX6_tagOf 14 = .ok (.invokevirtual 53, 3) := by decide +kernel
theorem dX6_tagOf_17 : decode cX6_tagOf 17 = .ok (.goto 28, 3) := by decide +kernel
theorem dX6_tagOf_20 : decode cX6_tagOf 20 = .ok (.aload_n 0, 1) := by decide +kernel
theorem dX6_tagOf_21 : decode cX6_tagOf 21 = .ok (.iload_n 2, 1) := by decide +kernel
theorem dX6_tagOf_22 : decode cX6_tagOf 22 = .ok (.bipush 9, 2) := by decide +kernel
theorem dX6_tagOf_24 : decode cX6_tagOf 24 = .ok (.invokevirtual 49, 3) := by decide +kernel
theorem dX6_tagOf_27 : decode cX6_tagOf 27 = .ok (.aload_n 0, 1) := by decide +kernel
theorem dX6_tagOf_28 : decode cX6_tagOf 28 = .ok (.iload_n 2, 1) := by decide +kernel
theorem dX6_tagOf_29 : decode cX6_tagOf 29 = .ok (.iconst 5, 1) := by decide +kernel
theorem dX6_tagOf_30 : decode cX6_tagOf 30 = .ok (.invokevirtual 49, 3) := by decide +kernel
theorem dX6_tagOf_33 : decode cX6_tagOf 33 = .ok (.ldc2_w 81, 3) := by decide +kernel
theorem dX6_tagOf_36 : decode cX6_tagOf 36 = .ok (.lmul, 1) := by decide +kernel
theorem dX6_tagOf_37 : decode cX6_tagOf 37 = .ok (.aload_n 0, 1) := by decide +kernel
theorem dX6_tagOf_38 : decode cX6_tagOf 38 = .ok (.iload_n 1, 1) := by decide +kernel
theorem dX6_tagOf_39 : decode cX6_tagOf 39 = .ok (.iconst 0, 1) := by decide +kernel
theorem dX6_tagOf_40 : decode cX6_tagOf 40 = .ok (.invokevirtual 53, 3) := by decide +kernel
theorem dX6_tagOf_43 : decode cX6_tagOf 43 = .ok (.ldiv, 1) := by decide +kernel
theorem dX6_tagOf_44 : decode cX6_tagOf 44 = .ok (.ladd, 1) := by decide +kernel
theorem dX6_tagOf_45 : decode cX6_tagOf 45 = .ok (.lreturn, 1) := by decide +kernel
theorem dX6_nextFlow_0 : decode cX6_nextFlow 0 = .ok (.bipush (-6), 2) := by decide +kernel
theorem dX6_nextFlow_2 : decode cX6_nextFlow 2 = .ok (.istore_n 1, 1) := by decide +kernel
theorem dX6_nextFlow_3 : decode cX6_nextFlow 3 = .ok (.bipush (-6), 2) := by decide +kernel
theorem dX6_nextFlow_5 : decode cX6_nextFlow 5 = .ok (.istore_n 2, 1) := by decide +kernel
theorem dX6_nextFlow_6 : decode cX6_nextFlow 6 = .ok (.lconst 0, 1) := by decide +kernel
theorem dX6_nextFlow_7 : decode cX6_nextFlow 7 = .ok (.lstore_n 3, 1) := by decide +kernel
theorem dX6_nextFlow_8 : decode cX6_nextFlow 8 = .ok (.iconst 0, 1) := by decide +kernel
theorem dX6_nextFlow_9 : decode cX6_nextFlow 9 = .ok (.istore 5, 2) := by decide +kernel
theorem dX6_nextFlow_11 : decode cX6_nextFlow 11 = .ok (.iload 5, 2) := by decide +kernel
theorem dX6_nextFlow_13 : decode cX6_nextFlow 13 = .ok (.i2l, 1) := by decide +kernel
theorem dX6_nextFlow_14 : decode cX6_nextFlow 14 = .ok (.aload_n 0, 1) := by decide +kernel
theorem dX6_nextFlow_15 : decode cX6_nextFlow 15 = .ok (.getfield 7, 3) := by decide +kernel
theorem dX6_nextFlow_18 : decode cX6_nextFlow 18 = .ok (.iconst 2, 1) := by decide +kernel
theorem dX6_nextFlow_19 : decode cX6_nextFlow 19 = .ok (.laload, 1) := by decide +kernel
theorem dX6_nextFlow_20 : decode cX6_nextFlow 20 = .ok (.lcmp, 1) := by decide +kernel
theorem dX6_nextFlow_21 : decode cX6_nextFlow 21 = .ok (.ifCond .ge 84, 3) := by decide +kernel
theorem dX6_nextFlow_24 : decode cX6_nextFlow 24 = .ok (.aload_n 0, 1) := by decide +kernel
theorem dX6_nextFlow_25 : decode cX6_nextFlow 25 = .ok (.iload 5, 2) := by decide +kernel
theorem dX6_nextFlow_27 : decode cX6_nextFlow 27 = .ok (.invokevirtual 166, 3) := by decide +kernel
theorem dX6_nextFlow_30 : decode cX6_nextFlow 30 = .ok (.istore 6, 2) := by decide +kernel
theorem dX6_nextFlow_32 : decode cX6_nextFlow 32 = .ok (.iload 6, 2) := by decide +kernel
theorem dX6_nextFlow_34 : decode cX6_nextFlow 34 = .ok (.ifCond .lt 65, 3) := by decide +kernel
theorem dX6_nextFlow_37 : decode cX6_nextFlow 37 = .ok (.aload_n 0, 1) := by decide +kernel
theorem dX6_nextFlow_38 : decode cX6_nextFlow 38 = .ok (.iload 6, 2) := by decide +kernel
theorem dX6_nextFlow_40 : decode cX6_nextFlow 40 = .ok (.invokevirtual 105, 3) := by decide +kernel
theorem dX6_nextFlow_43 : decode cX6_nextFlow 43 = .ok (.ifCond .eq 31, 3) := by decide +kernel
theorem dX6_nextFlow_46 : decode cX6_nextFlow 46 = .ok (.iload_n 1, 1) := by decide +kernel
theorem dX6_nextFlow_47 : decode cX6_nextFlow 47 = .ok (.ifCond .lt 24, 3) := by decide +kernel
theorem dX6_nextFlow_50 : decode cX6_nextFlow 50 = .ok (.aload_n 0, 1) := by decide +kernel
theorem dX6_nextFlow_51 : decode cX6_nextFlow 51 = .ok (.iload 6, 2) := by decide +kernel
theorem dX6_nextFlow_53 : decode cX6_nextFlow 53 = .ok (.iconst 3, 1) := by decide +kernel
theorem dX6_nextFlow_54 : decode cX6_nextFlow 54 = .ok (.invokevirtual 49, 3) := by decide +kernel
theorem dX6_nextFlow_57 : decode cX6_nextFlow 57 = .ok (.aload_n 0, 1) := by decide +kernel
theorem dX6_nextFlow_58 : decode cX6_nextFlow 58 = .ok (.aload_n 0, 1) := by decide +kernel
theorem dX6_nextFlow_59 : decode cX6_nextFlow 59 = .ok (.iload_n 1, 1) := by decide +kernel
theorem dX6_nextFlow_60 : decode cX6_nextFlow 60 = .ok (.invokevirtual 166, 3) := by decide +kernel
theorem dX6_nextFlow_63 : decode cX6_nextFlow 63 = .ok (.iconst 3, 1) := by decide +kernel
theorem dX6_nextFlow_64 : decode cX6_nextFlow 64 = .ok (.invokevirtual 49, 3) := by decide +kernel
theorem dX6_nextFlow_67 : decode cX6_nextFlow 67 = .ok (.lcmp, 1) := by decide +kernel
theorem dX6_nextFlow_68 : decode cX6_nextFlow 68 = .ok (.ifCond .ge 6, 3) := by decide +kernel
theorem dX6_nextFlow_71 : decode cX6_nextFlow 71 = .ok (.iload 5, 2) := by decide +kernel
theorem dX6_nextFlow_73 : decode cX6_nextFlow 73 = .ok (.istore_n 1, 1) := by decide +kernel
theorem dX6_nextFlow_74 : decode cX6_nextFlow 74 = .ok (.aload_n 0, 1) := by decide +kernel
theorem dX6_nextFlow_75 : decode cX6_nextFlow 75 = .ok (.iload 5, 2) := by decide +kernel
theorem dX6_nextFlow_77 : decode cX6_nextFlow 77 = .ok (.invokevirtual 169, 3) := by decide +kernel
theorem dX6_nextFlow_80 : decode cX6_nextFlow 80 = .ok (.lstore 7, 2) := by decide +kernel
theorem dX6_nextFlow_82 : decode cX6_nextFlow 82 = .ok (.iload_n 2, 1) := by decide +kernel
theorem dX6_nextFlow_83 : decode cX6_nextFlow 83 = .ok (.ifCond .lt 10, 3) := by decide +kernel
theorem dX6_nextFlow_86 : decode cX6_nextFlow 86 = .ok (.lload 7, 2) := by decide +kernel
theorem dX6_nextFlow_88 : decode cX6_nextFlow 88 = .ok (.lload_n 3, 1) := by decide +kernel
theorem dX6_nextFlow_89 : decode cX6_nextFlow 89 = .ok (.lcmp, 1) := by decide +kernel
theorem dX6_nextFlow_90 : decode cX6_nextFlow 90 = .ok (.ifCond .ge 9, 3) := by decide +kernel
theorem dX6_nextFlow_93 : decode cX6_nextFlow 93 = .ok (.iload 5, 2) := by decide +kernel
theorem dX6_nextFlow_95 : decode cX6_nextFlow 95 = .ok (.istore_n 2, 1) := by decide +kernel
theorem dX6_nextFlow_96 : decode cX6_nextFlow 96 = .ok (.lload 7, 2) := by decide +kernel
theorem dX6_nextFlow_98 : decode cX6_nextFlow 98 = .ok (.lstore_n 3, 1) := by decide +kernel
theorem dX6_nextFlow_99 : decode cX6_nextFlow 99 = .ok (.iinc 5 1, 3) := by decide +kernel
theorem dX6_nextFlow_102 : decode cX6_nextFlow 102 = .ok (.goto (-91), 3) := by decide +kernel
theorem dX6_nextFlow_105 : decode cX6_nextFlow 105 = .ok (.aload_n 0, 1) := by decide +kernel
theorem dX6_nextFlow_106 : decode cX6_nextFlow 106 = .ok (.iload_n 1, 1) := by decide +kernel
theorem dX6_nextFlow_107 : decode cX6_nextFlow 107 = .ok (.ifCond .lt 7, 3) := by decide +kernel
theorem dX6_nextFlow_110 : decode cX6_nextFlow 110 = .ok (.iconst 1, 1) := by decide +kernel
theorem dX6_nextFlow_111 : decode cX6_nextFlow 111 = .ok (.goto 4, 3) := by decide +kernel
theorem dX6_nextFlow_114 : decode cX6_nextFlow 114 = .ok (.iconst 0, 1) := by decide +kernel
theorem dX6_nextFlow_115 : decode cX6_nextFlow 115 = .ok (.putfield 172, 3) := by decide +kernel
theorem dX6_nextFlow_118 : decode cX6_nextFlow 118 = .ok (.aload_n 0, 1) := by decide +kernel
theorem dX6_nextFlow_119 : decode cX6_nextFlow 119 = .ok (.getfield 172, 3) := by decide +kernel
theorem dX6_nextFlow_122 : decode cX6_nextFlow 122 = .ok (.ifCond .eq 7, 3) := by decide +kernel
theorem dX6_nextFlow_125 : decode cX6_nextFlow 125 = .ok (.iload_n 1, 1) := by decide +kernel
theorem dX6_nextFlow_126 : decode cX6_nextFlow 126 = .ok (.goto 4, 3) := by decide +kernel
theorem dX6_nextFlow_129 : decode cX6_nextFlow 129 = .ok (.iload_n 2, 1) := by decide +kernel
theorem dX6_nextFlow_130 : decode cX6_nextFlow 130 = .ok (.ireturn, 1) := by decide +kernel
theorem dX6_begin_0 : decode cX6_begin 0 = .ok (.aload_n 0, 1) := by decide +kernel
theorem dX6_begin_1 : decode cX6_begin 1 = .ok (.invokevirtual 175, 3) := by decide +kernel
theorem dX6_begin_4 : decode cX6_begin 4 = .ok (.istore_n 1, 1) := by decide +kernel
theorem dX6_begin_5 : decode cX6_begin 5 = .ok (.iload_n 1, 1) := by decide +kernel
theorem dX6_begin_6 : decode cX6_begin 6 = .ok (.ifCond .ge 4, 3) := by decide +kernel
theorem dX6_begin_9 : decode cX6_begin 9 = .ok (.return_, 1) := by decide +kernel
theorem dX6_begin_10 : decode cX6_begin 10 = .ok (.aload_n 0, 1) := by decide +kernel
theorem dX6_begin_11 : decode cX6_begin 11 = .ok (.getfield 172, 3) := by decide +kernel
theorem dX6_begin_14 : decode cX6_begin 14 = .ok (.ifCond .ne 36, 3) := by decide +kernel
theorem dX6_begin_17 : decode cX6_begin 17 = .ok (.aload_n 0, 1) := by decide +kernel
theorem dX6_begin_18 : decode cX6_begin 18 = .ok (.iload_n 1, 1) := by decide +kernel
theorem dX6_begin_19 : decode cX6_begin 19 = .ok (.invokevirtual 169, 3) := by decide +kernel
theorem dX6_begin_22 : decode cX6_begin 22 = .ok (.lstore_n 2, 1) := by decide +kernel
theorem dX6_begin_23 : decode cX6_begin 23 = .ok (.aload_n 0, 1) := by decide +kernel
theorem dX6_begin_24 : decode cX6_begin 24 = .ok (.getfield 7, 3) := by decide +kernel
theorem dX6_begin_27 : decode cX6_begin 27 = .ok (.iconst 1, 1) := by decide +kernel
theorem dX6_begin_28 : decode cX6_begin 28 = .ok (.lload_n 2, 1) := by decide +kernel
theorem dX6_begin_29 : decode cX6_begin 29 = .ok (.aload_n 0, 1) := by decide +kernel
theorem dX6_begin_30 : decode cX6_begin 30 = .ok (.getfield 7, 3) := by decide +kernel
theorem dX6_begin_33 : decode cX6_begin 33 = .ok (.iconst 1, 1) := by decide +kernel
theorem dX6_begin_34 : decode cX6_begin 34 = .ok (.laload, 1) := by decide +kernel
theorem dX6_begin_35 : decode cX6_begin 35 = .ok (.lcmp, 1) := by decide +kernel
theorem dX6_begin_36 : decode cX6_begin 36 = .ok (.ifCond .le 7, 3) := by decide +kernel
theorem dX6_begin_39 : decode cX6_begin 39 = .ok (.lload_n 2, 1) := by decide +kernel
theorem dX6_begin_40 : decode cX6_begin 40 = .ok (.goto 9, 3) := by decide +kernel
theorem dX6_begin_43 : decode cX6_begin 43 = .ok (.aload_n 0, 1) := by decide +kernel
theorem dX6_begin_44 : decode cX6_begin 44 = .ok (.getfield 7, 3) := by decide +kernel
theorem dX6_begin_47 : decode cX6_begin 47 = .ok (.iconst 1, 1) := by decide +kernel
theorem dX6_begin_48 : decode cX6_begin 48 = .ok (.laload, 1) := by decide +kernel
theorem dX6_begin_49 : decode cX6_begin 49 = .ok (.lastore, 1) := by decide +kernel
theorem dX6_begin_50 : decode cX6_begin 50 = .ok (.aload_n 0, 1) := by decide +kernel
theorem dX6_begin_51 : decode cX6_begin 51 = .ok (.iload_n 1, 1) := by decide +kernel
theorem dX6_begin_52 : decode cX6_begin 52 = .ok (.invokevirtual 166, 3) := by decide +kernel
theorem dX6_begin_55 : decode cX6_begin 55 = .ok (.istore_n 2, 1) := by decide +kernel
theorem dX6_begin_56 : decode cX6_begin 56 = .ok (.aload_n 0, 1) := by decide +kernel
theorem dX6_begin_57 : decode cX6_begin 57 = .ok (.iload_n 2, 1) := by decide +kernel
theorem dX6_begin_58 : decode cX6_begin 58 = .ok (.iconst 1, 1) := by decide +kernel
theorem dX6_begin_59 : decode cX6_begin 59 = .ok (.invokevirtual 49, 3) := by decide +kernel
theorem dX6_begin_62 : decode cX6_begin 62 = .ok (.aload_n 0, 1) := by decide +kernel
theorem dX6_begin_63 : decode cX6_begin 63 = .ok (.iload_n 2, 1) := by decide +kernel
theorem dX6_begin_64 : decode cX6_begin 64 = .ok (.iconst 5, 1) := by decide +kernel
theorem dX6_begin_65 : decode cX6_begin 65 = .ok (.invokevirtual 49, 3) := by decide +kernel
theorem dX6_begin_68 : decode cX6_begin 68 = .ok (.lsub, 1) := by decide +kernel
theorem dX6_begin_69 : decode cX6_begin 69 = .ok (.lstore_n 3, 1) := by decide +kernel
theorem dX6_begin_70 : decode cX6_begin 70 = .ok (.aload_n 0, 1) := by decide +kernel
theorem dX6_begin_71 : decode cX6_begin 71 = .ok (.iload_n 1, 1) := by decide +kernel
theorem dX6_begin_72 : decode cX6_begin 72 = .ok (.iconst 2, 1) := by decide +kernel
theorem dX6_begin_73 : decode cX6_begin 73 = .ok (.invokevirtual 53, 3) := by decide +kernel
theorem dX6_begin_76 : decode cX6_begin 76 = .ok (.lstore 5, 2) := by decide +kernel
theorem dX6_begin_78 : decode cX6_begin 78 = .ok (.aload_n 0, 1) := by decide +kernel
theorem dX6_begin_79 : decode cX6_begin 79 = .ok (.getfield 7, 3) := by decide +kernel
theorem dX6_begin_82 : decode cX6_begin 82 = .ok (.bipush 8, 2) := by decide +kernel
theorem dX6_begin_84 : decode cX6_begin 84 = .ok (.iload_n 2, 1) := by decide +kernel
theorem dX6_begin_85 : decode cX6_begin 85 = .ok (.i2l, 1) := by decide +kernel
theorem dX6_begin_86 : decode cX6_begin 86 = .ok (.lastore, 1) := by decide +kernel
theorem dX6_begin_87 : decode cX6_begin 87 = .ok (.aload_n 0, 1) := by decide +kernel
theorem dX6_begin_88 : decode cX6_begin 88 = .ok (.getfield 7, 3) := by decide +kernel
theorem dX6_begin_91 : decode cX6_begin 91 = .ok (.bipush 9, 2) := by decide +kernel
theorem dX6_begin_93 : decode cX6_begin 93 = .ok (.lload 5, 2) := by decide +kernel
theorem dX6_begin_95 : decode cX6_begin 95 = .ok (.lconst 0, 1) := by decide +kernel
theorem dX6_begin_96 : decode cX6_begin 96 = .ok (.lcmp, 1) := by decide +kernel
theorem dX6_begin_97 : decode cX6_begin 97 = .ok (.ifCond .le 15, 3) := by decide +kernel
theorem dX6_begin_100 : decode cX6_begin 100 = .ok (.lload 5, 2) := by decide +kernel
theorem dX6_begin_102 : decode cX6_begin 102 = .ok (.lload_n 3, 1) := by decide +kernel
theorem dX6_begin_103 : decode cX6_begin 103 = .ok (.lcmp, 1) := by decide +kernel
theorem dX6_begin_104 : decode cX6_begin 104 = .ok (.ifCond .ge 8, 3) := by decide +kernel
theorem dX6_begin_107 : decode cX6_begin 107 = .ok (.lload 5, 2) := by decide +kernel
theorem dX6_begin_109 : decode cX6_begin 109 = .ok (.goto 4, 3) := by decide +kernel
theorem dX6_begin_112 : decode cX6_begin 112 = .ok (.lload_n 3, 1) := by decide +kernel
theorem dX6_begin_113 : decode cX6_begin 113 = .ok (.lastore, 1) := by decide +kernel
theorem dX6_begin_114 : decode cX6_begin 114 = .ok (.aload_n 0, 1) := by decide +kernel
theorem dX6_begin_115 : decode cX6_begin 115 = .ok (.getfield 7, 3) := by decide +kernel
theorem dX6_begin_118 : decode cX6_begin 118 = .ok (.bipush 10, 2) := by decide +kernel
theorem dX6_begin_120 : decode cX6_begin 120 = .ok (.aload_n 0, 1) := by decide +kernel
