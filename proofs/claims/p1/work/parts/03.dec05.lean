theorem dX8_goes_177 : decode cX8_goes 177 = .ok (.aload_n 0, 1) := by decide +kernel
theorem dX8_goes_178 : decode cX8_goes 178 = .ok (.getfield 96, 3) := by decide +kernel
theorem dX8_goes_181 : decode cX8_goes 181 = .ok (.iload 7, 2) := by decide +kernel
theorem dX8_goes_183 : decode cX8_goes 183 = .ok (.iaload, 1) := by decide +kernel
theorem dX8_goes_184 : decode cX8_goes 184 = .ok (.if_icmp .ne 46, 3) := by decide +kernel
theorem dX8_goes_187 : decode cX8_goes 187 = .ok (.aload_n 0, 1) := by decide +kernel
theorem dX8_goes_188 : decode cX8_goes 188 = .ok (.getfield 28, 3) := by decide +kernel
theorem dX8_goes_191 : decode cX8_goes 191 = .ok (.iload 8, 2) := by decide +kernel
theorem dX8_goes_193 : decode cX8_goes 193 = .ok (.iaload, 1) := by decide +kernel
theorem dX8_goes_194 : decode cX8_goes 194 = .ok (.iload_n 3, 1) := by decide +kernel
theorem dX8_goes_195 : decode cX8_goes 195 = .ok (.ishr, 1) := by decide +kernel
theorem dX8_goes_196 : decode cX8_goes 196 = .ok (.iconst 1, 1) := by decide +kernel
theorem dX8_goes_197 : decode cX8_goes 197 = .ok (.iand, 1) := by decide +kernel
theorem dX8_goes_198 : decode cX8_goes 198 = .ok (.iconst 1, 1) := by decide +kernel
theorem dX8_goes_199 : decode cX8_goes 199 = .ok (.if_icmp .ne 31, 3) := by decide +kernel
theorem dX8_goes_202 : decode cX8_goes 202 = .ok (.aload_n 0, 1) := by decide +kernel
theorem dX8_goes_203 : decode cX8_goes 203 = .ok (.getfield 31, 3) := by decide +kernel
theorem dX8_goes_206 : decode cX8_goes 206 = .ok (.iload 8, 2) := by decide +kernel
theorem dX8_goes_208 : decode cX8_goes 208 = .ok (.iaload, 1) := by decide +kernel
theorem dX8_goes_209 : decode cX8_goes 209 = .ok (.bipush 90, 2) := by decide +kernel
theorem dX8_goes_211 : decode cX8_goes 211 = .ok (.iload_n 2, 1) := by decide +kernel
theorem dX8_goes_212 : decode cX8_goes 212 = .ok (.imul, 1) := by decide +kernel
theorem dX8_goes_213 : decode cX8_goes 213 = .ok (.bipush 89, 2) := by decide +kernel
theorem dX8_goes_215 : decode cX8_goes 215 = .ok (.iadd, 1) := by decide +kernel
theorem dX8_goes_216 : decode cX8_goes 216 = .ok (.if_icmp .gt 14, 3) := by decide +kernel
theorem dX8_goes_219 : decode cX8_goes 219 = .ok (.aload_n 0, 1) := by decide +kernel
theorem dX8_goes_220 : decode cX8_goes 220 = .ok (.iload_n 1, 1) := by decide +kernel
theorem dX8_goes_221 : decode cX8_goes 221 = .ok (.iload_n 2, 1) := by decide +kernel
theorem dX8_goes_222 : decode cX8_goes 222 = .ok (.iload_n 3, 1) := by decide +kernel
theorem dX8_goes_223 : decode cX8_goes 223 = .ok (.iload 8, 2) := by decide +kernel
theorem dX8_goes_225 : decode cX8_goes 225 = .ok (.iload 7, 2) := by decide +kernel
theorem dX8_goes_227 : decode cX8_goes 227 = .ok (.invokevirtual 188, 3) := by decide +kernel
theorem dX8_goes_230 : decode cX8_goes 230 = .ok (.goto (-191), 3) := by decide +kernel
theorem dX8_goes_233 : decode cX8_goes 233 = .ok (.return_, 1) := by decide +kernel
set_option maxRecDepth 20000 in
theorem ggX8_meets_X8_bag : GoodIn wsX8_meets wsX8_bag := goodIn_r _ [15] (by decide +kernel) (by decide +kernel)
set_option maxRecDepth 20000 in
theorem gX8_meets_X8_bag : GoodIn wsX8_meets (va_wsS RX8 196 yX8_bag wsX8_bag) := goodIn_app (goodIn_of _ (by decide +kernel)) ggX8_meets_X8_bag
set_option maxRecDepth 20000 in
theorem ggX8_meets_X8_begins : GoodIn wsX8_meets wsX8_begins := goodIn_r _ [19, 20, 21, 22, 23, 24, 25, 26, 27, 28, 1, 29, 30, 31, 32, 33, 34, 35, 36, 37, 38, 39, 40, 41, 42, 43, 44, 45, 46, 47, 48, 49, 50, 51, 52, 53, 54, 55, 56, 57, 58, 59, 60, 61, 62, 63, 64, 65, 66, 67, 68, 69, 70, 71, 72, 73, 74, 75, 76] (by decide +kernel) (by decide +kernel)
set_option maxRecDepth 20000 in
theorem gX8_meets_X8_begins : GoodIn wsX8_meets (wsV RX8 184 RX8 yX8_begins wsX8_begins) := goodIn_app (goodIn_of _ (by decide +kernel)) ggX8_meets_X8_begins
theorem dX8_meets_0 : decode cX8_meets 0 = .ok (.bipush 24, 2) := by decide +kernel
theorem dX8_meets_2 : decode cX8_meets 2 = .ok (.iload_n 1, 1) := by decide +kernel
theorem dX8_meets_3 : decode cX8_meets 3 = .ok (.imul, 1) := by decide +kernel
theorem dX8_meets_4 : decode cX8_meets 4 = .ok (.iload 4, 2) := by decide +kernel
theorem dX8_meets_6 : decode cX8_meets 6 = .ok (.iadd, 1) := by decide +kernel
theorem dX8_meets_7 : decode cX8_meets 7 = .ok (.istore 6, 2) := by decide +kernel
theorem dX8_meets_9 : decode cX8_meets 9 = .ok (.aload_n 0, 1) := by decide +kernel
theorem dX8_meets_10 : decode cX8_meets 10 = .ok (.getfield 105, 3) := by decide +kernel
theorem dX8_meets_13 : decode cX8_meets 13 = .ok (.iload 5, 2) := by decide +kernel
theorem dX8_meets_15 : decode cX8_meets 15 = .ok (.laload, 1) := by decide +kernel
theorem dX8_meets_16 : decode cX8_meets 16 = .ok (.lstore 7, 2) := by decide +kernel
theorem dX8_meets_18 : decode cX8_meets 18 = .ok (.lconst 0, 1) := by decide +kernel
theorem dX8_meets_19 : decode cX8_meets 19 = .ok (.lstore 9, 2) := by decide +kernel
theorem dX8_meets_21 : decode cX8_meets 21 = .ok (.aload_n 0, 1) := by decide +kernel
theorem dX8_meets_22 : decode cX8_meets 22 = .ok (.getfield 22, 3) := by decide +kernel
theorem dX8_meets_25 : decode cX8_meets 25 = .ok (.iload 4, 2) := by decide +kernel
theorem dX8_meets_27 : decode cX8_meets 27 = .ok (.iaload, 1) := by decide +kernel
theorem dX8_meets_28 : decode cX8_meets 28 = .ok (.tableswitch 242 0 4 #[36, 153, 242, 63, 195], 36) := by decide +kernel
theorem dX8_meets_64 : decode cX8_meets 64 = .ok (.iload 5, 2) := by decide +kernel
theorem dX8_meets_66 : decode cX8_meets 66 = .ok (.iconst 2, 1) := by decide +kernel
theorem dX8_meets_67 : decode cX8_meets 67 = .ok (.if_icmp .ne 4, 3) := by decide +kernel
theorem dX8_meets_70 : decode cX8_meets 70 = .ok (.return_, 1) := by decide +kernel
theorem dX8_meets_71 : decode cX8_meets 71 = .ok (.lload 7, 2) := by decide +kernel
theorem dX8_meets_73 : decode cX8_meets 73 = .ok (.aload_n 0, 1) := by decide +kernel
theorem dX8_meets_74 : decode cX8_meets 74 = .ok (.getfield 34, 3) := by decide +kernel
theorem dX8_meets_77 : decode cX8_meets 77 = .ok (.iload 4, 2) := by decide +kernel
theorem dX8_meets_79 : decode cX8_meets 79 = .ok (.iaload, 1) := by decide +kernel
theorem dX8_meets_80 : decode cX8_meets 80 = .ok (.i2l, 1) := by decide +kernel
theorem dX8_meets_81 : decode cX8_meets 81 = .ok (.lmul, 1) := by decide +kernel
theorem dX8_meets_82 : decode cX8_meets 82 = .ok (.ldc2_w 192, 3) := by decide +kernel
theorem dX8_meets_85 : decode cX8_meets 85 = .ok (.ldiv, 1) := by decide +kernel
theorem dX8_meets_86 : decode cX8_meets 86 = .ok (.lstore 9, 2) := by decide +kernel
theorem dX8_meets_88 : decode cX8_meets 88 = .ok (.goto 183, 3) := by decide +kernel
theorem dX8_meets_91 : decode cX8_meets 91 = .ok (.iload 5, 2) := by decide +kernel
theorem dX8_meets_93 : decode cX8_meets 93 = .ok (.iconst 2, 1) := by decide +kernel
theorem dX8_meets_94 : decode cX8_meets 94 = .ok (.if_icmp .ne 4, 3) := by decide +kernel
theorem dX8_meets_97 : decode cX8_meets 97 = .ok (.return_, 1) := by decide +kernel
theorem dX8_meets_98 : decode cX8_meets 98 = .ok (.aload_n 0, 1) := by decide +kernel
theorem dX8_meets_99 : decode cX8_meets 99 = .ok (.getfield 37, 3) := by decide +kernel
theorem dX8_meets_102 : decode cX8_meets 102 = .ok (.iload 4, 2) := by decide +kernel
theorem dX8_meets_104 : decode cX8_meets 104 = .ok (.iaload, 1) := by decide +kernel
theorem dX8_meets_105 : decode cX8_meets 105 = .ok (.i2l, 1) := by decide +kernel
theorem dX8_meets_106 : decode cX8_meets 106 = .ok (.ldc2_w 194, 3) := by decide +kernel
theorem dX8_meets_109 : decode cX8_meets 109 = .ok (.lmul, 1) := by decide +kernel
theorem dX8_meets_110 : decode cX8_meets 110 = .ok (.aload_n 0, 1) := by decide +kernel
theorem dX8_meets_111 : decode cX8_meets 111 = .ok (.getfield 81, 3) := by decide +kernel
theorem dX8_meets_114 : decode cX8_meets 114 = .ok (.iload 6, 2) := by decide +kernel
theorem dX8_meets_116 : decode cX8_meets 116 = .ok (.laload, 1) := by decide +kernel
theorem dX8_meets_117 : decode cX8_meets 117 = .ok (.lsub, 1) := by decide +kernel
theorem dX8_meets_118 : decode cX8_meets 118 = .ok (.lstore 11, 2) := by decide +kernel
theorem dX8_meets_120 : decode cX8_meets 120 = .ok (.lload 11, 2) := by decide +kernel
theorem dX8_meets_122 : decode cX8_meets 122 = .ok (.lconst 0, 1) := by decide +kernel
theorem dX8_meets_123 : decode cX8_meets 123 = .ok (.lcmp, 1) := by decide +kernel
theorem dX8_meets_124 : decode cX8_meets 124 = .ok (.ifCond .ge 6, 3) := by decide +kernel
theorem dX8_meets_127 : decode cX8_meets 127 = .ok (.lconst 0, 1) := by decide +kernel
theorem dX8_meets_128 : decode cX8_meets 128 = .ok (.lstore 11, 2) := by decide +kernel
theorem dX8_meets_130 : decode cX8_meets 130 = .ok (.lload 11, 2) := by decide +kernel
theorem dX8_meets_132 : decode cX8_meets 132 = .ok (.lload 7, 2) := by decide +kernel
theorem dX8_meets_134 : decode cX8_meets 134 = .ok (.lcmp, 1) := by decide +kernel
theorem dX8_meets_135 : decode cX8_meets 135 = .ok (.ifCond .le 7, 3) := by decide +kernel
theorem dX8_meets_138 : decode cX8_meets 138 = .ok (.lload 7, 2) := by decide +kernel
theorem dX8_meets_140 : decode cX8_meets 140 = .ok (.lstore 11, 2) := by decide +kernel
theorem dX8_meets_142 : decode cX8_meets 142 = .ok (.lload 11, 2) := by decide +kernel
theorem dX8_meets_144 : decode cX8_meets 144 = .ok (.aload_n 0, 1) := by decide +kernel
theorem dX8_meets_145 : decode cX8_meets 145 = .ok (.getfield 34, 3) := by decide +kernel
theorem dX8_meets_148 : decode cX8_meets 148 = .ok (.iload 4, 2) := by decide +kernel
theorem dX8_meets_150 : decode cX8_meets 150 = .ok (.iaload, 1) := by decide +kernel
theorem dX8_meets_151 : decode cX8_meets 151 = .ok (.i2l, 1) := by decide +kernel
theorem dX8_meets_152 : decode cX8_meets 152 = .ok (.lmul, 1) := by decide +kernel
theorem dX8_meets_153 : decode cX8_meets 153 = .ok (.ldc2_w 192, 3) := by decide +kernel
theorem dX8_meets_156 : decode cX8_meets 156 = .ok (.ldiv, 1) := by decide +kernel
theorem dX8_meets_157 : decode cX8_meets 157 = .ok (.lload 7, 2) := by decide +kernel
theorem dX8_meets_159 : decode cX8_meets 159 = .ok (.lload 11, 2) := by decide +kernel
theorem dX8_meets_161 : decode cX8_meets 161 = .ok (.lsub, 1) := by decide +kernel
theorem dX8_meets_162 : decode cX8_meets 162 = .ok (.aload_n 0, 1) := by decide +kernel
theorem dX8_meets_163 : decode cX8_meets 163 = .ok (.getfield 40, 3) := by decide +kernel
theorem dX8_meets_166 : decode cX8_meets 166 = .ok (.iload 4, 2) := by decide +kernel
theorem dX8_meets_168 : decode cX8_meets 168 = .ok (.iaload, 1) := by decide +kernel
theorem dX8_meets_169 : decode cX8_meets 169 = .ok (.i2l, 1) := by decide +kernel
theorem dX8_meets_170 : decode cX8_meets 170 = .ok (.lmul, 1) := by decide +kernel
theorem dX8_meets_171 : decode cX8_meets 171 = .ok (.ldc2_w 192, 3) := by decide +kernel
theorem dX8_meets_174 : decode cX8_meets 174 = .ok (.ldiv, 1) := by decide +kernel
theorem dX8_meets_175 : decode cX8_meets 175 = .ok (.ladd, 1) := by decide +kernel
theorem dX8_meets_176 : decode cX8_meets 176 = .ok (.lstore 9, 2) := by decide +kernel
theorem dX8_meets_178 : decode cX8_meets 178 = .ok (.goto 93, 3) := by decide +kernel
theorem dX8_meets_181 : decode cX8_meets 181 = .ok (.aload_n 0, 1) := by decide +kernel
theorem dX8_meets_182 : decode cX8_meets 182 = .ok (.getfield 34, 3) := by decide +kernel
theorem dX8_meets_185 : decode cX8_meets 185 = .ok (.iload 4, 2) := by decide +kernel
theorem dX8_meets_187 : decode cX8_meets 187 = .ok (.iaload, 1) := by decide +kernel
theorem dX8_meets_188 : decode cX8_meets 188 = .ok (.i2l, 1) := by decide +kernel
theorem dX8_meets_189 : decode cX8_meets 189 = .ok (.ldc2_w 194, 3) := by decide +kernel
theorem dX8_meets_192 : decode cX8_meets 192 = .ok (.lmul, 1) := by decide +kernel
theorem dX8_meets_193 : decode cX8_meets 193 = .ok (.aload_n 0, 1) := by decide +kernel
theorem dX8_meets_194 : decode cX8_meets 194 = .ok (.getfield 78, 3) := by decide +kernel
theorem dX8_meets_197 : decode cX8_meets 197 = .ok (.iload 6, 2) := by decide +kernel
theorem dX8_meets_199 : decode cX8_meets 199 = .ok (.laload, 1) := by decide +kernel
theorem dX8_meets_200 : decode cX8_meets 200 = .ok (.lsub, 1) := by decide +kernel
theorem dX8_meets_201 : decode cX8_meets 201 = .ok (.lstore 11, 2) := by decide +kernel
theorem dX8_meets_203 : decode cX8_meets 203 = .ok (.lload 7, 2) := by decide +kernel
theorem dX8_meets_205 : decode cX8_meets 205 = .ok (.lload 11, 2) := by decide +kernel
theorem dX8_meets_207 : decode cX8_meets 207 = .ok (.lcmp, 1) := by decide +kernel
theorem dX8_meets_208 : decode cX8_meets 208 = .ok (.ifCond .ge 8, 3) := by decide +kernel
theorem dX8_meets_211 : decode cX8_meets 211 = .ok (.lload 7, 2) := by decide +kernel
theorem dX8_meets_213 : decode cX8_meets 213 = .ok (.goto 5, 3) := by decide +kernel
theorem dX8_meets_216 : decode cX8_meets 216 = .ok (.lload 11, 2) := by decide +kernel
theorem dX8_meets_218 : decode cX8_meets 218 = .ok (.lstore 9, 2) := by decide +kernel
theorem dX8_meets_220 : decode cX8_meets 220 = .ok (.goto 51, 3) := by decide +kernel
theorem dX8_meets_223 : decode cX8_meets 223 = .ok (.lload 7, 2) := by decide +kernel
theorem dX8_meets_225 : decode cX8_meets 225 = .ok (.aload_n 0, 1) := by decide +kernel
theorem dX8_meets_226 : decode cX8_meets 226 = .ok (.getfield 34, 3) := by decide +kernel
theorem dX8_meets_229 : decode cX8_meets 229 = .ok (.iload 4, 2) := by decide +kernel
theorem dX8_meets_231 : decode cX8_meets 231 = .ok (.iaload, 1) := by decide +kernel
theorem dX8_meets_232 : decode cX8_meets 232 = .ok (.i2l, 1) := by decide +kernel
theorem dX8_meets_233 : decode cX8_meets 233 = .ok (.lmul, 1) := by decide +kernel
theorem dX8_meets_234 : decode cX8_meets 234 = .ok (.ldc2_w 192, 3) := by decide +kernel
theorem dX8_meets_237 : decode cX8_meets 237 = .ok (.ldiv, 1) := by decide +kernel
theorem dX8_meets_238 : decode cX8_meets 238 = .ok (.lstore 9, 2) := by decide +kernel
theorem dX8_meets_240 : decode cX8_meets 240 = .ok (.aload_n 0, 1) := by decide +kernel
theorem dX8_meets_241 : decode cX8_meets 241 = .ok (.getfield 84, 3) := by decide +kernel
theorem dX8_meets_244 : decode cX8_meets 244 = .ok (.iload_n 1, 1) := by decide +kernel
theorem dX8_meets_245 : decode cX8_meets 245 = .ok (.iload 4, 2) := by decide +kernel
theorem dX8_meets_247 : decode cX8_meets 247 = .ok (.iload_n 2, 1) := by decide +kernel
theorem dX8_meets_248 : decode cX8_meets 248 = .ok (.invokestatic 196, 3) := by decide +kernel
theorem dX8_meets_251 : decode cX8_meets 251 = .ok (.aload_n 0, 1) := by decide +kernel
theorem dX8_meets_252 : decode cX8_meets 252 = .ok (.getfield 84, 3) := by decide +kernel
theorem dX8_meets_255 : decode cX8_meets 255 = .ok (.iload_n 1, 1) := by decide +kernel
theorem dX8_meets_256 : decode cX8_meets 256 = .ok (.iload 4, 2) := by decide +kernel
theorem dX8_meets_258 : decode cX8_meets 258 = .ok (.iload_n 2, 1) := by decide +kernel
theorem dX8_meets_259 : decode cX8_meets 259 = .ok (.invokestatic 196, 3) := by decide +kernel
theorem dX8_meets_262 : decode cX8_meets 262 = .ok (.laload, 1) := by decide +kernel
theorem dX8_meets_263 : decode cX8_meets 263 = .ok (.lload 9, 2) := by decide +kernel
theorem dX8_meets_265 : decode cX8_meets 265 = .ok (.ladd, 1) := by decide +kernel
theorem dX8_meets_266 : decode cX8_meets 266 = .ok (.lastore, 1) := by decide +kernel
theorem dX8_meets_267 : decode cX8_meets 267 = .ok (.goto 4, 3) := by decide +kernel
theorem dX8_meets_270 : decode cX8_meets 270 = .ok (.return_, 1) := by decide +kernel
theorem dX8_meets_271 : decode cX8_meets 271 = .ok (.aload_n 0, 1) := by decide +kernel
theorem dX8_meets_272 : decode cX8_meets 272 = .ok (.getfield 81, 3) := by decide +kernel
theorem dX8_meets_275 : decode cX8_meets 275 = .ok (.iload 6, 2) := by decide +kernel
theorem dX8_meets_277 : decode cX8_meets 277 = .ok (.aload_n 0, 1) := by decide +kernel
theorem dX8_meets_278 : decode cX8_meets 278 = .ok (.getfield 81, 3) := by decide +kernel
theorem dX8_meets_281 : decode cX8_meets 281 = .ok (.iload 6, 2) := by decide +kernel
theorem dX8_meets_283 : decode cX8_meets 283 = .ok (.laload, 1) := by decide +kernel
theorem dX8_meets_284 : decode cX8_meets 284 = .ok (.lload 7, 2) := by decide +kernel
theorem dX8_meets_286 : decode cX8_meets 286 = .ok (.ladd, 1) := by decide +kernel
theorem dX8_meets_287 : decode cX8_meets 287 = .ok (.lastore, 1) := by decide +kernel
theorem dX8_meets_288 : decode cX8_meets 288 = .ok (.aload_n 0, 1) := by decide +kernel
theorem dX8_meets_289 : decode cX8_meets 289 = .ok (.getfield 78, 3) := by decide +kernel
theorem dX8_meets_292 : decode cX8_meets 292 = .ok (.iload 6, 2) := by decide +kernel
theorem dX8_meets_294 : decode cX8_meets 294 = .ok (.aload_n 0, 1) := by decide +kernel
theorem dX8_meets_295 : decode cX8_meets 295 = .ok (.getfield 78, 3) := by decide +kernel
theorem dX8_meets_298 : decode cX8_meets 298 = .ok (.iload 6, 2) := by decide +kernel
theorem dX8_meets_300 : decode cX8_meets 300 = .ok (.laload, 1) := by decide +kernel
theorem dX8_meets_301 : decode cX8_meets 301 = .ok (.lload 9, 2) := by decide +kernel
theorem dX8_meets_303 : decode cX8_meets 303 = .ok (.ladd, 1) := by decide +kernel
theorem dX8_meets_304 : decode cX8_meets 304 = .ok (.lastore, 1) := by decide +kernel
theorem dX8_meets_305 : decode cX8_meets 305 = .ok (.aload_n 0, 1) := by decide +kernel
theorem dX8_meets_306 : decode cX8_meets 306 = .ok (.getfield 105, 3) := by decide +kernel
theorem dX8_meets_309 : decode cX8_meets 309 = .ok (.iload 5, 2) := by decide +kernel
theorem dX8_meets_311 : decode cX8_meets 311 = .ok (.lload 7, 2) := by decide +kernel
theorem dX8_meets_313 : decode cX8_meets 313 = .ok (.lload 9, 2) := by decide +kernel
theorem dX8_meets_315 : decode cX8_meets 315 = .ok (.lsub, 1) := by decide +kernel
theorem dX8_meets_316 : decode cX8_meets 316 = .ok (.lastore, 1) := by decide +kernel
theorem dX8_meets_317 : decode cX8_meets 317 = .ok (.aload_n 0, 1) := by decide +kernel
theorem dX8_meets_318 : decode cX8_meets 318 = .ok (.getfield 22, 3) := by decide +kernel
theorem dX8_meets_321 : decode cX8_meets 321 = .ok (.iload 4, 2) := by decide +kernel
theorem dX8_meets_323 : decode cX8_meets 323 = .ok (.iaload, 1) := by decide +kernel
theorem dX8_meets_324 : decode cX8_meets 324 = .ok (.ifCond .eq 14, 3) := by decide +kernel
theorem dX8_meets_327 : decode cX8_meets 327 = .ok (.aload_n 0, 1) := by decide +kernel
theorem dX8_meets_328 : decode cX8_meets 328 = .ok (.getfield 22, 3) := by decide +kernel
theorem dX8_meets_331 : decode cX8_meets 331 = .ok (.iload 4, 2) := by decide +kernel
theorem dX8_meets_333 : decode cX8_meets 333 = .ok (.iaload, 1) := by decide +kernel
theorem dX8_meets_334 : decode cX8_meets 334 = .ok (.iconst 3, 1) := by decide +kernel
theorem dX8_meets_335 : decode cX8_meets 335 = .ok (.if_icmp .ne 27, 3) := by decide +kernel
theorem dX8_meets_338 : decode cX8_meets 338 = .ok (.lload 9, 2) := by decide +kernel
theorem dX8_meets_340 : decode cX8_meets 340 = .ok (.lconst 0, 1) := by decide +kernel
theorem dX8_meets_341 : decode cX8_meets 341 = .ok (.lcmp, 1) := by decide +kernel
theorem dX8_meets_342 : decode cX8_meets 342 = .ok (.ifCond .le 20, 3) := by decide +kernel
theorem dX8_meets_345 : decode cX8_meets 345 = .ok (.aload_n 0, 1) := by decide +kernel
theorem dX8_meets_346 : decode cX8_meets 346 = .ok (.iload_n 1, 1) := by decide +kernel
theorem dX8_meets_347 : decode cX8_meets 347 = .ok (.iload_n 3, 1) := by decide +kernel
theorem dX8_meets_348 : decode cX8_meets 348 = .ok (.aload_n 0, 1) := by decide +kernel
theorem dX8_meets_349 : decode cX8_meets 349 = .ok (.getfield 43, 3) := by decide +kernel
theorem dX8_meets_352 : decode cX8_meets 352 = .ok (.iload 4, 2) := by decide +kernel
theorem dX8_meets_354 : decode cX8_meets 354 = .ok (.iaload, 1) := by decide +kernel
theorem dX8_meets_355 : decode cX8_meets 355 = .ok (.iload 4, 2) := by decide +kernel
theorem dX8_meets_357 : decode cX8_meets 357 = .ok (.lload 9, 2) := by decide +kernel
theorem dX8_meets_359 : decode cX8_meets 359 = .ok (.invokevirtual 184, 3) := by decide +kernel
theorem dX8_meets_362 : decode cX8_meets 362 = .ok (.return_, 1) := by decide +kernel
set_option maxRecDepth 20000 in
theorem ggX8_comes_X8_setOn : GoodIn wsX8_comes wsX8_setOn := goodIn_r _ [8, 9, 10, 52, 53, 54, 55, 56, 57, 58, 59, 60, 61, 62, 63, 64, 65, 66, 67, 68, 69, 70, 71, 72, 73, 74, 75, 76, 77, 78, 79, 80, 81, 82, 83, 84, 85, 86, 87, 88, 89, 90, 91, 92, 93, 94, 95, 96, 97, 98] (by decide +kernel) (by decide +kernel)
set_option maxRecDepth 20000 in
theorem gX8_comes_X8_setOn : GoodIn wsX8_comes (wsV RX8 200 RX8 yX8_setOn wsX8_setOn) := goodIn_app (goodIn_of _ (by decide +kernel)) ggX8_comes_X8_setOn
set_option maxRecDepth 20000 in
theorem ggX8_comes_X8_goes : GoodIn wsX8_comes wsX8_goes := goodIn_r _ [14, 15, 16, 17, 18, 19, 20, 21, 22, 23, 24, 25, 26, 27, 28, 29, 7, 30, 31, 32, 33, 34, 35, 36, 37, 38, 39, 40, 41, 3, 42, 43, 44, 45, 46, 47, 48, 49, 50, 51, 52, 53, 54, 55, 56, 57, 58, 59, 60, 61, 62, 63, 64, 65, 66, 67, 68, 69, 70, 71, 72, 73, 74, 75, 76, 77, 78, 79, 80, 81, 82, 83, 84, 85, 86, 87, 88, 89, 90, 91, 92, 93, 94, 95, 96, 97, 98] (by decide +kernel) (by decide +kernel)
set_option maxRecDepth 20000 in
theorem gX8_comes_X8_goes : GoodIn wsX8_comes (wsV RX8 204 RX8 yX8_goes wsX8_goes) := goodIn_app (goodIn_of _ (by decide +kernel)) ggX8_comes_X8_goes
theorem dX8_comes_0 : decode cX8_comes 0 = .ok (.aload_n 0, 1) := by decide +kernel
theorem dX8_comes_1 : decode cX8_comes 1 = .ok (.iload_n 3, 1) := by decide +kernel
theorem dX8_comes_2 : decode cX8_comes 2 = .ok (.iload 5, 2) := by decide +kernel
theorem dX8_comes_4 : decode cX8_comes 4 = .ok (.invokevirtual 200, 3) := by decide +kernel
theorem dX8_comes_7 : decode cX8_comes 7 = .ok (.istore 6, 2) := by decide +kernel
theorem dX8_comes_9 : decode cX8_comes 9 = .ok (.iconst 0, 1) := by decide +kernel
theorem dX8_comes_10 : decode cX8_comes 10 = .ok (.istore 7, 2) := by decide +kernel
theorem dX8_comes_12 : decode cX8_comes 12 = .ok (.iload 7, 2) := by decide +kernel
theorem dX8_comes_14 : decode cX8_comes 14 = .ok (.iconst 3, 1) := by decide +kernel
theorem dX8_comes_15 : decode cX8_comes 15 = .ok (.if_icmp .ge 59, 3) := by decide +kernel
theorem dX8_comes_18 : decode cX8_comes 18 = .ok (.aload_n 0, 1) := by decide +kernel
theorem dX8_comes_19 : decode cX8_comes 19 = .ok (.getfield 16, 3) := by decide +kernel
theorem dX8_comes_22 : decode cX8_comes 22 = .ok (.iconst 3, 1) := by decide +kernel
theorem dX8_comes_23 : decode cX8_comes 23 = .ok (.iload 6, 2) := by decide +kernel
theorem dX8_comes_25 : decode cX8_comes 25 = .ok (.imul, 1) := by decide +kernel
theorem dX8_comes_26 : decode cX8_comes 26 = .ok (.iload 7, 2) := by decide +kernel
theorem dX8_comes_28 : decode cX8_comes 28 = .ok (.iadd, 1) := by decide +kernel
theorem dX8_comes_29 : decode cX8_comes 29 = .ok (.iaload, 1) := by decide +kernel
theorem dX8_comes_30 : decode cX8_comes 30 = .ok (.istore 8, 2) := by decide +kernel
theorem dX8_comes_32 : decode cX8_comes 32 = .ok (.iload 8, 2) := by decide +kernel
theorem dX8_comes_34 : decode cX8_comes 34 = .ok (.iconst (-1), 1) := by decide +kernel
theorem dX8_comes_35 : decode cX8_comes 35 = .ok (.if_icmp .eq 33, 3) := by decide +kernel
theorem dX8_comes_38 : decode cX8_comes 38 = .ok (.aload_n 0, 1) := by decide +kernel
theorem dX8_comes_39 : decode cX8_comes 39 = .ok (.iload_n 1, 1) := by decide +kernel
theorem dX8_comes_40 : decode cX8_comes 40 = .ok (.iload_n 2, 1) := by decide +kernel
theorem dX8_comes_41 : decode cX8_comes 41 = .ok (.iload_n 3, 1) := by decide +kernel
theorem dX8_comes_42 : decode cX8_comes 42 = .ok (.iload 8, 2) := by decide +kernel
theorem dX8_comes_44 : decode cX8_comes 44 = .ok (.iload 4, 2) := by decide +kernel
theorem dX8_comes_46 : decode cX8_comes 46 = .ok (.i2l, 1) := by decide +kernel
theorem dX8_comes_47 : decode cX8_comes 47 = .ok (.aload_n 0, 1) := by decide +kernel
theorem dX8_comes_48 : decode cX8_comes 48 = .ok (.getfield 19, 3) := by decide +kernel
theorem dX8_comes_51 : decode cX8_comes 51 = .ok (.iconst 3, 1) := by decide +kernel
theorem dX8_comes_52 : decode cX8_comes 52 = .ok (.iload 6, 2) := by decide +kernel
theorem dX8_comes_54 : decode cX8_comes 54 = .ok (.imul, 1) := by decide +kernel
theorem dX8_comes_55 : decode cX8_comes 55 = .ok (.iload 7, 2) := by decide +kernel
theorem dX8_comes_57 : decode cX8_comes 57 = .ok (.iadd, 1) := by decide +kernel
theorem dX8_comes_58 : decode cX8_comes 58 = .ok (.iaload, 1) := by decide +kernel
theorem dX8_comes_59 : decode cX8_comes 59 = .ok (.i2l, 1) := by decide +kernel
theorem dX8_comes_60 : decode cX8_comes 60 = .ok (.lmul, 1) := by decide +kernel
theorem dX8_comes_61 : decode cX8_comes 61 = .ok (.ldc2_w 192, 3) := by decide +kernel
theorem dX8_comes_64 : decode cX8_comes 64 = .ok (.lmul, 1) := by decide +kernel
theorem dX8_comes_65 : decode cX8_comes 65 = .ok (.invokevirtual 204, 3) := by decide +kernel
theorem dX8_comes_68 : decode cX8_comes 68 = .ok (.iinc 7 1, 3) := by decide +kernel
theorem dX8_comes_71 : decode cX8_comes 71 = .ok (.goto (-59), 3) := by decide +kernel
theorem dX8_comes_74 : decode cX8_comes 74 = .ok (.return_, 1) := by decide +kernel
set_option maxRecDepth 20000 in
theorem ggX8_closes_X8_isOpen : GoodIn wsX8_closes wsX8_isOpen := goodIn_r _ [18, 19, 20, 82, 83, 84, 85, 86, 87, 88, 89, 90, 91, 92, 93, 94, 95, 96, 97, 98, 99, 100, 101, 102, 103, 104, 105, 106, 107, 108, 109, 110, 111, 112, 113, 114, 115, 116, 117, 118, 119, 120, 121, 122, 123, 124, 125, 126, 127, 128] (by decide +kernel) (by decide +kernel)
set_option maxRecDepth 20000 in
theorem gX8_closes_X8_isOpen : GoodIn wsX8_closes (wsV RX8 175 RX8 yX8_isOpen wsX8_isOpen) := goodIn_app (goodIn_of _ (by decide +kernel)) ggX8_closes_X8_isOpen
set_option maxRecDepth 20000 in
theorem ggX8_closes_X8_comes : GoodIn wsX8_closes wsX8_comes := goodIn_r _ [24, 25, 26, 27, 28, 29, 30, 17, 31, 32, 33, 34, 35, 36, 37, 38, 39, 40, 7, 41, 42, 11, 43, 44, 10, 45, 13, 46, 47, 48, 49, 50, 51, 52, 53, 54, 55, 56, 57, 58, 8, 59, 9, 60, 61, 62, 63, 12, 64, 65, 66, 67, 82, 83, 84, 85, 86, 87, 88, 89, 90, 91, 92, 93, 94, 95, 96, 97, 98, 99, 100, 101, 102, 103, 104, 105, 106, 107, 108, 109, 110, 111, 112, 113, 114, 115, 116, 117, 118, 119, 120, 121, 122, 123, 124, 125, 126, 127, 128] (by decide +kernel) (by decide +kernel)
set_option maxRecDepth 20000 in
theorem gX8_closes_X8_comes : GoodIn wsX8_closes (wsV RX8 207 RX8 yX8_comes wsX8_comes) := goodIn_app (goodIn_of _ (by decide +kernel)) ggX8_closes_X8_comes
set_option maxRecDepth 20000 in
theorem ggX8_closes_X8_bag : GoodIn wsX8_closes wsX8_bag := goodIn_r _ [67] (by decide +kernel) (by decide +kernel)
set_option maxRecDepth 20000 in
theorem gX8_closes_X8_bag : GoodIn wsX8_closes (va_wsS RX8 196 yX8_bag wsX8_bag) := goodIn_app (goodIn_of _ (by decide +kernel)) ggX8_closes_X8_bag
set_option maxRecDepth 20000 in
theorem ggX8_closes_X8_pays : GoodIn wsX8_closes wsX8_pays := goodIn_r _ [71, 72, 11, 60, 73, 74, 75, 17, 76, 82, 83, 84, 85, 86, 87, 88, 89, 90, 91, 92, 93, 94, 95, 96, 97, 98, 99, 100, 101, 102, 103, 104, 105, 106, 107, 108, 109, 110, 111, 112, 113, 114, 115, 116, 117, 118, 119, 120, 121, 122, 123, 124, 125, 126, 127, 128] (by decide +kernel) (by decide +kernel)
set_option maxRecDepth 20000 in
theorem gX8_closes_X8_pays : GoodIn wsX8_closes (wsV RX8 210 RX8 yX8_pays wsX8_pays) := goodIn_app (goodIn_of _ (by decide +kernel)) ggX8_closes_X8_pays
set_option maxRecDepth 20000 in
theorem ggX8_closes_X8_fills : GoodIn wsX8_closes wsX8_fills := goodIn_r _ [80, 10, 73, 59, 81, 74, 75, 17, 76, 82, 83, 84, 85, 86, 87, 88, 89, 90, 91, 92, 93, 94, 95, 96, 97, 98, 99, 100, 101, 102, 103, 104, 105, 106, 107, 108, 109, 110, 111, 112, 113, 114, 115, 116, 117, 118, 119, 120, 121, 122, 123, 124, 125, 126, 127, 128] (by decide +kernel) (by decide +kernel)
set_option maxRecDepth 20000 in
theorem gX8_closes_X8_fills : GoodIn wsX8_closes (wsV RX8 214 RX8 yX8_fills wsX8_fills) := goodIn_app (goodIn_of _ (by decide +kernel)) ggX8_closes_X8_fills
theorem dX8_closes_0 : decode cX8_closes 0 = .ok (.iconst 0, 1) := by decide +kernel
theorem dX8_closes_1 : decode cX8_closes 1 = .ok (.istore_n 3, 1) := by decide +kernel
theorem dX8_closes_2 : decode cX8_closes 2 = .ok (.iload_n 3, 1) := by decide +kernel
theorem dX8_closes_3 : decode cX8_closes 3 = .ok (.aload_n 0, 1) := by decide +kernel
theorem dX8_closes_4 : decode cX8_closes 4 = .ok (.getfield 61, 3) := by decide +kernel
theorem dX8_closes_7 : decode cX8_closes 7 = .ok (.iload_n 2, 1) := by decide +kernel
theorem dX8_closes_8 : decode cX8_closes 8 = .ok (.iaload, 1) := by decide +kernel
theorem dX8_closes_9 : decode cX8_closes 9 = .ok (.if_icmp .ge 146, 3) := by decide +kernel
theorem dX8_closes_12 : decode cX8_closes 12 = .ok (.aload_n 0, 1) := by decide +kernel
theorem dX8_closes_13 : decode cX8_closes 13 = .ok (.getfield 58, 3) := by decide +kernel
theorem dX8_closes_16 : decode cX8_closes 16 = .ok (.bipush 12, 2) := by decide +kernel
theorem dX8_closes_18 : decode cX8_closes 18 = .ok (.iload_n 2, 1) := by decide +kernel
theorem dX8_closes_19 : decode cX8_closes 19 = .ok (.imul, 1) := by decide +kernel
theorem dX8_closes_20 : decode cX8_closes 20 = .ok (.iload_n 3, 1) := by decide +kernel
theorem dX8_closes_21 : decode cX8_closes 21 = .ok (.iadd, 1) := by decide +kernel
theorem dX8_closes_22 : decode cX8_closes 22 = .ok (.iaload, 1) := by decide +kernel
theorem dX8_closes_23 : decode cX8_closes 23 = .ok (.istore 4, 2) := by decide +kernel
theorem dX8_closes_25 : decode cX8_closes 25 = .ok (.bipush 12, 2) := by decide +kernel
theorem dX8_closes_27 : decode cX8_closes 27 = .ok (.iload_n 2, 1) := by decide +kernel
theorem dX8_closes_28 : decode cX8_closes 28 = .ok (.imul, 1) := by decide +kernel
theorem dX8_closes_29 : decode cX8_closes 29 = .ok (.iload 4, 2) := by decide +kernel
theorem dX8_closes_31 : decode cX8_closes 31 = .ok (.iadd, 1) := by decide +kernel
theorem dX8_closes_32 : decode cX8_closes 32 = .ok (.istore 5, 2) := by decide +kernel
theorem dX8_closes_34 : decode cX8_closes 34 = .ok (.aload_n 0, 1) := by decide +kernel
theorem dX8_closes_35 : decode cX8_closes 35 = .ok (.iload_n 2, 1) := by decide +kernel
theorem dX8_closes_36 : decode cX8_closes 36 = .ok (.iload 4, 2) := by decide +kernel
theorem dX8_closes_38 : decode cX8_closes 38 = .ok (.invokevirtual 175, 3) := by decide +kernel
theorem dX8_closes_41 : decode cX8_closes 41 = .ok (.ifCond .eq 6, 3) := by decide +kernel
theorem dX8_closes_44 : decode cX8_closes 44 = .ok (.goto 105, 3) := by decide +kernel
theorem dX8_closes_47 : decode cX8_closes 47 = .ok (.aload_n 0, 1) := by decide +kernel
theorem dX8_closes_48 : decode cX8_closes 48 = .ok (.getfield 55, 3) := by decide +kernel
theorem dX8_closes_51 : decode cX8_closes 51 = .ok (.iload 5, 2) := by decide +kernel
theorem dX8_closes_53 : decode cX8_closes 53 = .ok (.iaload, 1) := by decide +kernel
theorem dX8_closes_54 : decode cX8_closes 54 = .ok (.iconst 2, 1) := by decide +kernel
theorem dX8_closes_55 : decode cX8_closes 55 = .ok (.if_icmp .ne 72, 3) := by decide +kernel
theorem dX8_closes_58 : decode cX8_closes 58 = .ok (.aload_n 0, 1) := by decide +kernel
theorem dX8_closes_59 : decode cX8_closes 59 = .ok (.iload_n 1, 1) := by decide +kernel
theorem dX8_closes_60 : decode cX8_closes 60 = .ok (.iload_n 2, 1) := by decide +kernel
theorem dX8_closes_61 : decode cX8_closes 61 = .ok (.iload 4, 2) := by decide +kernel
theorem dX8_closes_63 : decode cX8_closes 63 = .ok (.aload_n 0, 1) := by decide +kernel
theorem dX8_closes_64 : decode cX8_closes 64 = .ok (.getfield 46, 3) := by decide +kernel
theorem dX8_closes_67 : decode cX8_closes 67 = .ok (.iload 5, 2) := by decide +kernel
theorem dX8_closes_69 : decode cX8_closes 69 = .ok (.iaload, 1) := by decide +kernel
theorem dX8_closes_70 : decode cX8_closes 70 = .ok (.bipush 90, 2) := by decide +kernel
theorem dX8_closes_72 : decode cX8_closes 72 = .ok (.iload_n 2, 1) := by decide +kernel
theorem dX8_closes_73 : decode cX8_closes 73 = .ok (.imul, 1) := by decide +kernel
theorem dX8_closes_74 : decode cX8_closes 74 = .ok (.bipush 29, 2) := by decide +kernel
theorem dX8_closes_76 : decode cX8_closes 76 = .ok (.iadd, 1) := by decide +kernel
theorem dX8_closes_77 : decode cX8_closes 77 = .ok (.invokevirtual 207, 3) := by decide +kernel
theorem dX8_closes_80 : decode cX8_closes 80 = .ok (.aload_n 0, 1) := by decide +kernel
theorem dX8_closes_81 : decode cX8_closes 81 = .ok (.iload_n 1, 1) := by decide +kernel
theorem dX8_closes_82 : decode cX8_closes 82 = .ok (.iload_n 2, 1) := by decide +kernel
theorem dX8_closes_83 : decode cX8_closes 83 = .ok (.iload 4, 2) := by decide +kernel
theorem dX8_closes_85 : decode cX8_closes 85 = .ok (.aload_n 0, 1) := by decide +kernel
theorem dX8_closes_86 : decode cX8_closes 86 = .ok (.getfield 49, 3) := by decide +kernel
theorem dX8_closes_89 : decode cX8_closes 89 = .ok (.iload 5, 2) := by decide +kernel
theorem dX8_closes_91 : decode cX8_closes 91 = .ok (.iaload, 1) := by decide +kernel
theorem dX8_closes_92 : decode cX8_closes 92 = .ok (.bipush 90, 2) := by decide +kernel
theorem dX8_closes_94 : decode cX8_closes 94 = .ok (.iload_n 2, 1) := by decide +kernel
theorem dX8_closes_95 : decode cX8_closes 95 = .ok (.imul, 1) := by decide +kernel
theorem dX8_closes_96 : decode cX8_closes 96 = .ok (.bipush 59, 2) := by decide +kernel
theorem dX8_closes_98 : decode cX8_closes 98 = .ok (.iadd, 1) := by decide +kernel
theorem dX8_closes_99 : decode cX8_closes 99 = .ok (.invokevirtual 207, 3) := by decide +kernel
theorem dX8_closes_102 : decode cX8_closes 102 = .ok (.aload_n 0, 1) := by decide +kernel
theorem dX8_closes_103 : decode cX8_closes 103 = .ok (.iload_n 1, 1) := by decide +kernel
theorem dX8_closes_104 : decode cX8_closes 104 = .ok (.iload_n 2, 1) := by decide +kernel
theorem dX8_closes_105 : decode cX8_closes 105 = .ok (.iload 4, 2) := by decide +kernel
theorem dX8_closes_107 : decode cX8_closes 107 = .ok (.aload_n 0, 1) := by decide +kernel
theorem dX8_closes_108 : decode cX8_closes 108 = .ok (.getfield 52, 3) := by decide +kernel
theorem dX8_closes_111 : decode cX8_closes 111 = .ok (.iload 5, 2) := by decide +kernel
theorem dX8_closes_113 : decode cX8_closes 113 = .ok (.iaload, 1) := by decide +kernel
theorem dX8_closes_114 : decode cX8_closes 114 = .ok (.bipush 90, 2) := by decide +kernel
theorem dX8_closes_116 : decode cX8_closes 116 = .ok (.iload_n 2, 1) := by decide +kernel
theorem dX8_closes_117 : decode cX8_closes 117 = .ok (.imul, 1) := by decide +kernel
theorem dX8_closes_118 : decode cX8_closes 118 = .ok (.bipush 89, 2) := by decide +kernel
theorem dX8_closes_120 : decode cX8_closes 120 = .ok (.iadd, 1) := by decide +kernel
theorem dX8_closes_121 : decode cX8_closes 121 = .ok (.invokevirtual 207, 3) := by decide +kernel
theorem dX8_closes_124 : decode cX8_closes 124 = .ok (.goto 25, 3) := by decide +kernel
theorem dX8_closes_127 : decode cX8_closes 127 = .ok (.aload_n 0, 1) := by decide +kernel
theorem dX8_closes_128 : decode cX8_closes 128 = .ok (.iload_n 1, 1) := by decide +kernel
theorem dX8_closes_129 : decode cX8_closes 129 = .ok (.iload_n 2, 1) := by decide +kernel
theorem dX8_closes_130 : decode cX8_closes 130 = .ok (.iload 4, 2) := by decide +kernel
theorem dX8_closes_132 : decode cX8_closes 132 = .ok (.aload_n 0, 1) := by decide +kernel
theorem dX8_closes_133 : decode cX8_closes 133 = .ok (.getfield 46, 3) := by decide +kernel
theorem dX8_closes_136 : decode cX8_closes 136 = .ok (.iload 5, 2) := by decide +kernel
theorem dX8_closes_138 : decode cX8_closes 138 = .ok (.iaload, 1) := by decide +kernel
theorem dX8_closes_139 : decode cX8_closes 139 = .ok (.bipush 90, 2) := by decide +kernel
theorem dX8_closes_141 : decode cX8_closes 141 = .ok (.iload_n 2, 1) := by decide +kernel
theorem dX8_closes_142 : decode cX8_closes 142 = .ok (.imul, 1) := by decide +kernel
theorem dX8_closes_143 : decode cX8_closes 143 = .ok (.bipush 89, 2) := by decide +kernel
theorem dX8_closes_145 : decode cX8_closes 145 = .ok (.iadd, 1) := by decide +kernel
theorem dX8_closes_146 : decode cX8_closes 146 = .ok (.invokevirtual 207, 3) := by decide +kernel
theorem dX8_closes_149 : decode cX8_closes 149 = .ok (.iinc 3 1, 3) := by decide +kernel
theorem dX8_closes_152 : decode cX8_closes 152 = .ok (.goto (-150), 3) := by decide +kernel
theorem dX8_closes_155 : decode cX8_closes 155 = .ok (.iconst 0, 1) := by decide +kernel
theorem dX8_closes_156 : decode cX8_closes 156 = .ok (.istore_n 3, 1) := by decide +kernel
theorem dX8_closes_157 : decode cX8_closes 157 = .ok (.iload_n 3, 1) := by decide +kernel
theorem dX8_closes_158 : decode cX8_closes 158 = .ok (.aload_n 0, 1) := by decide +kernel
theorem dX8_closes_159 : decode cX8_closes 159 = .ok (.getfield 157, 3) := by decide +kernel
theorem dX8_closes_162 : decode cX8_closes 162 = .ok (.if_icmp .ge 90, 3) := by decide +kernel
theorem dX8_closes_165 : decode cX8_closes 165 = .ok (.aload_n 0, 1) := by decide +kernel
theorem dX8_closes_166 : decode cX8_closes 166 = .ok (.getfield 22, 3) := by decide +kernel
theorem dX8_closes_169 : decode cX8_closes 169 = .ok (.iload_n 3, 1) := by decide +kernel
theorem dX8_closes_170 : decode cX8_closes 170 = .ok (.iaload, 1) := by decide +kernel
theorem dX8_closes_171 : decode cX8_closes 171 = .ok (.iconst 4, 1) := by decide +kernel
theorem dX8_closes_172 : decode cX8_closes 172 = .ok (.if_icmp .ne 74, 3) := by decide +kernel
theorem dX8_closes_175 : decode cX8_closes 175 = .ok (.iload_n 2, 1) := by decide +kernel
theorem dX8_closes_176 : decode cX8_closes 176 = .ok (.aload_n 0, 1) := by decide +kernel
theorem dX8_closes_177 : decode cX8_closes 177 = .ok (.getfield 37, 3) := by decide +kernel
theorem dX8_closes_180 : decode cX8_closes 180 = .ok (.iload_n 3, 1) := by decide +kernel
theorem dX8_closes_181 : decode cX8_closes 181 = .ok (.iaload, 1) := by decide +kernel
theorem dX8_closes_182 : decode cX8_closes 182 = .ok (.if_icmp .ge 6, 3) := by decide +kernel
theorem dX8_closes_185 : decode cX8_closes 185 = .ok (.goto 61, 3) := by decide +kernel
theorem dX8_closes_188 : decode cX8_closes 188 = .ok (.iload_n 1, 1) := by decide +kernel
theorem dX8_closes_189 : decode cX8_closes 189 = .ok (.iload_n 3, 1) := by decide +kernel
theorem dX8_closes_190 : decode cX8_closes 190 = .ok (.iload_n 2, 1) := by decide +kernel
theorem dX8_closes_191 : decode cX8_closes 191 = .ok (.aload_n 0, 1) := by decide +kernel
theorem dX8_closes_192 : decode cX8_closes 192 = .ok (.getfield 37, 3) := by decide +kernel
theorem dX8_closes_195 : decode cX8_closes 195 = .ok (.iload_n 3, 1) := by decide +kernel
theorem dX8_closes_196 : decode cX8_closes 196 = .ok (.iaload, 1) := by decide +kernel
theorem dX8_closes_197 : decode cX8_closes 197 = .ok (.isub, 1) := by decide +kernel
theorem dX8_closes_198 : decode cX8_closes 198 = .ok (.invokestatic 196, 3) := by decide +kernel
theorem dX8_closes_201 : decode cX8_closes 201 = .ok (.istore 4, 2) := by decide +kernel
theorem dX8_closes_203 : decode cX8_closes 203 = .ok (.bipush 12, 2) := by decide +kernel
theorem dX8_closes_205 : decode cX8_closes 205 = .ok (.iload_n 1, 1) := by decide +kernel
theorem dX8_closes_206 : decode cX8_closes 206 = .ok (.imul, 1) := by decide +kernel
theorem dX8_closes_207 : decode cX8_closes 207 = .ok (.aload_n 0, 1) := by decide +kernel
theorem dX8_closes_208 : decode cX8_closes 208 = .ok (.getfield 25, 3) := by decide +kernel
theorem dX8_closes_211 : decode cX8_closes 211 = .ok (.iload_n 3, 1) := by decide +kernel
theorem dX8_closes_212 : decode cX8_closes 212 = .ok (.iaload, 1) := by decide +kernel
theorem dX8_closes_213 : decode cX8_closes 213 = .ok (.iadd, 1) := by decide +kernel
theorem dX8_closes_214 : decode cX8_closes 214 = .ok (.istore 5, 2) := by decide +kernel
theorem dX8_closes_216 : decode cX8_closes 216 = .ok (.aload_n 0, 1) := by decide +kernel
theorem dX8_closes_217 : decode cX8_closes 217 = .ok (.getfield 71, 3) := by decide +kernel
theorem dX8_closes_220 : decode cX8_closes 220 = .ok (.iload 5, 2) := by decide +kernel
theorem dX8_closes_222 : decode cX8_closes 222 = .ok (.aload_n 0, 1) := by decide +kernel
theorem dX8_closes_223 : decode cX8_closes 223 = .ok (.getfield 71, 3) := by decide +kernel
theorem dX8_closes_226 : decode cX8_closes 226 = .ok (.iload 5, 2) := by decide +kernel
theorem dX8_closes_228 : decode cX8_closes 228 = .ok (.laload, 1) := by decide +kernel
theorem dX8_closes_229 : decode cX8_closes 229 = .ok (.aload_n 0, 1) := by decide +kernel
theorem dX8_closes_230 : decode cX8_closes 230 = .ok (.getfield 84, 3) := by decide +kernel
theorem dX8_closes_233 : decode cX8_closes 233 = .ok (.iload 4, 2) := by decide +kernel
theorem dX8_closes_235 : decode cX8_closes 235 = .ok (.laload, 1) := by decide +kernel
theorem dX8_closes_236 : decode cX8_closes 236 = .ok (.ladd, 1) := by decide +kernel
theorem dX8_closes_237 : decode cX8_closes 237 = .ok (.lastore, 1) := by decide +kernel
theorem dX8_closes_238 : decode cX8_closes 238 = .ok (.aload_n 0, 1) := by decide +kernel
theorem dX8_closes_239 : decode cX8_closes 239 = .ok (.getfield 84, 3) := by decide +kernel
theorem dX8_closes_242 : decode cX8_closes 242 = .ok (.iload 4, 2) := by decide +kernel
theorem dX8_closes_244 : decode cX8_closes 244 = .ok (.lconst 0, 1) := by decide +kernel
theorem dX8_closes_245 : decode cX8_closes 245 = .ok (.lastore, 1) := by decide +kernel
theorem dX8_closes_246 : decode cX8_closes 246 = .ok (.iinc 3 1, 3) := by decide +kernel
theorem dX8_closes_249 : decode cX8_closes 249 = .ok (.goto (-92), 3) := by decide +kernel
theorem dX8_closes_252 : decode cX8_closes 252 = .ok (.iconst 0, 1) := by decide +kernel
theorem dX8_closes_253 : decode cX8_closes 253 = .ok (.istore_n 3, 1) := by decide +kernel
theorem dX8_closes_254 : decode cX8_closes 254 = .ok (.iload_n 3, 1) := by decide +kernel
theorem dX8_closes_255 : decode cX8_closes 255 = .ok (.bipush 12, 2) := by decide +kernel
theorem dX8_closes_257 : decode cX8_closes 257 = .ok (.if_icmp .ge 16, 3) := by decide +kernel
theorem dX8_closes_260 : decode cX8_closes 260 = .ok (.aload_n 0, 1) := by decide +kernel
theorem dX8_closes_261 : decode cX8_closes 261 = .ok (.iload_n 1, 1) := by decide +kernel
theorem dX8_closes_262 : decode cX8_closes 262 = .ok (.iload_n 2, 1) := by decide +kernel
theorem dX8_closes_263 : decode cX8_closes 263 = .ok (.iload_n 3, 1) := by decide +kernel
theorem dX8_closes_264 : decode cX8_closes 264 = .ok (.invokevirtual 210, 3) := by decide +kernel
theorem dX8_closes_267 : decode cX8_closes 267 = .ok (.iinc 3 1, 3) := by decide +kernel
theorem dX8_closes_270 : decode cX8_closes 270 = .ok (.goto (-16), 3) := by decide +kernel
theorem dX8_closes_273 : decode cX8_closes 273 = .ok (.iconst 0, 1) := by decide +kernel
theorem dX8_closes_274 : decode cX8_closes 274 = .ok (.istore_n 3, 1) := by decide +kernel
theorem dX8_closes_275 : decode cX8_closes 275 = .ok (.iload_n 3, 1) := by decide +kernel
theorem dX8_closes_276 : decode cX8_closes 276 = .ok (.aload_n 0, 1) := by decide +kernel
theorem dX8_closes_277 : decode cX8_closes 277 = .ok (.getfield 157, 3) := by decide +kernel
theorem dX8_closes_280 : decode cX8_closes 280 = .ok (.if_icmp .ge 49, 3) := by decide +kernel
theorem dX8_closes_283 : decode cX8_closes 283 = .ok (.iload_n 2, 1) := by decide +kernel
theorem dX8_closes_284 : decode cX8_closes 284 = .ok (.iconst 4, 1) := by decide +kernel
theorem dX8_closes_285 : decode cX8_closes 285 = .ok (.irem, 1) := by decide +kernel
theorem dX8_closes_286 : decode cX8_closes 286 = .ok (.iconst 3, 1) := by decide +kernel
theorem dX8_closes_287 : decode cX8_closes 287 = .ok (.if_icmp .ne 42, 3) := by decide +kernel
theorem dX8_closes_290 : decode cX8_closes 290 = .ok (.aload_n 0, 1) := by decide +kernel
theorem dX8_closes_291 : decode cX8_closes 291 = .ok (.getfield 22, 3) := by decide +kernel
theorem dX8_closes_294 : decode cX8_closes 294 = .ok (.iload_n 3, 1) := by decide +kernel
theorem dX8_closes_295 : decode cX8_closes 295 = .ok (.iaload, 1) := by decide +kernel
theorem dX8_closes_296 : decode cX8_closes 296 = .ok (.iconst 2, 1) := by decide +kernel
theorem dX8_closes_297 : decode cX8_closes 297 = .ok (.if_icmp .ne 26, 3) := by decide +kernel
theorem dX8_closes_300 : decode cX8_closes 300 = .ok (.aload_n 0, 1) := by decide +kernel
theorem dX8_closes_301 : decode cX8_closes 301 = .ok (.getfield 31, 3) := by decide +kernel
theorem dX8_closes_304 : decode cX8_closes 304 = .ok (.iload_n 3, 1) := by decide +kernel
theorem dX8_closes_305 : decode cX8_closes 305 = .ok (.iaload, 1) := by decide +kernel
theorem dX8_closes_306 : decode cX8_closes 306 = .ok (.bipush 90, 2) := by decide +kernel
theorem dX8_closes_308 : decode cX8_closes 308 = .ok (.iload_n 2, 1) := by decide +kernel
theorem dX8_closes_309 : decode cX8_closes 309 = .ok (.imul, 1) := by decide +kernel
theorem dX8_closes_310 : decode cX8_closes 310 = .ok (.bipush 89, 2) := by decide +kernel
theorem dX8_closes_312 : decode cX8_closes 312 = .ok (.iadd, 1) := by decide +kernel
theorem dX8_closes_313 : decode cX8_closes 313 = .ok (.if_icmp .gt 10, 3) := by decide +kernel
theorem dX8_closes_316 : decode cX8_closes 316 = .ok (.aload_n 0, 1) := by decide +kernel
theorem dX8_closes_317 : decode cX8_closes 317 = .ok (.iload_n 1, 1) := by decide +kernel
theorem dX8_closes_318 : decode cX8_closes 318 = .ok (.iload_n 2, 1) := by decide +kernel
theorem dX8_closes_319 : decode cX8_closes 319 = .ok (.iload_n 3, 1) := by decide +kernel
theorem dX8_closes_320 : decode cX8_closes 320 = .ok (.invokevirtual 214, 3) := by decide +kernel
theorem dX8_closes_323 : decode cX8_closes 323 = .ok (.iinc 3 1, 3) := by decide +kernel
theorem dX8_closes_326 : decode cX8_closes 326 = .ok (.goto (-51), 3) := by decide +kernel
theorem dX8_closes_329 : decode cX8_closes 329 = .ok (.return_, 1) := by decide +kernel
set_option maxRecDepth 20000 in
theorem ggX8_pays_X8_dueAt : GoodIn wsX8_pays wsX8_dueAt := goodIn_r _ [8] (by decide +kernel) (by decide +kernel)
set_option maxRecDepth 20000 in
theorem gX8_pays_X8_dueAt : GoodIn wsX8_pays (va_wsS RX8 217 yX8_dueAt wsX8_dueAt) := goodIn_app (goodIn_of _ (by decide +kernel)) ggX8_pays_X8_dueAt
theorem dX8_pays_0 : decode cX8_pays 0 = .ok (.bipush 12, 2) := by decide +kernel
theorem dX8_pays_2 : decode cX8_pays 2 = .ok (.iload_n 1, 1) := by decide +kernel
theorem dX8_pays_3 : decode cX8_pays 3 = .ok (.imul, 1) := by decide +kernel
theorem dX8_pays_4 : decode cX8_pays 4 = .ok (.iload_n 3, 1) := by decide +kernel
theorem dX8_pays_5 : decode cX8_pays 5 = .ok (.iadd, 1) := by decide +kernel
theorem dX8_pays_6 : decode cX8_pays 6 = .ok (.istore 4, 2) := by decide +kernel
theorem dX8_pays_8 : decode cX8_pays 8 = .ok (.aload_n 0, 1) := by decide +kernel
theorem dX8_pays_9 : decode cX8_pays 9 = .ok (.getfield 75, 3) := by decide +kernel
theorem dX8_pays_12 : decode cX8_pays 12 = .ok (.iload 4, 2) := by decide +kernel
theorem dX8_pays_14 : decode cX8_pays 14 = .ok (.laload, 1) := by decide +kernel
theorem dX8_pays_15 : decode cX8_pays 15 = .ok (.lconst 0, 1) := by decide +kernel
theorem dX8_pays_16 : decode cX8_pays 16 = .ok (.lcmp, 1) := by decide +kernel
theorem dX8_pays_17 : decode cX8_pays 17 = .ok (.ifCond .le 86, 3) := by decide +kernel
theorem dX8_pays_20 : decode cX8_pays 20 = .ok (.aload_n 0, 1) := by decide +kernel
theorem dX8_pays_21 : decode cX8_pays 21 = .ok (.getfield 71, 3) := by decide +kernel
theorem dX8_pays_24 : decode cX8_pays 24 = .ok (.iload 4, 2) := by decide +kernel
theorem dX8_pays_26 : decode cX8_pays 26 = .ok (.laload, 1) := by decide +kernel
theorem dX8_pays_27 : decode cX8_pays 27 = .ok (.lconst 0, 1) := by decide +kernel
theorem dX8_pays_28 : decode cX8_pays 28 = .ok (.lcmp, 1) := by decide +kernel
theorem dX8_pays_29 : decode cX8_pays 29 = .ok (.ifCond .le 74, 3) := by decide +kernel
theorem dX8_pays_32 : decode cX8_pays 32 = .ok (.aload_n 0, 1) := by decide +kernel
theorem dX8_pays_33 : decode cX8_pays 33 = .ok (.getfield 71, 3) := by decide +kernel
theorem dX8_pays_36 : decode cX8_pays 36 = .ok (.iload 4, 2) := by decide +kernel
theorem dX8_pays_38 : decode cX8_pays 38 = .ok (.laload, 1) := by decide +kernel
theorem dX8_pays_39 : decode cX8_pays 39 = .ok (.aload_n 0, 1) := by decide +kernel
theorem dX8_pays_40 : decode cX8_pays 40 = .ok (.getfield 75, 3) := by decide +kernel
theorem dX8_pays_43 : decode cX8_pays 43 = .ok (.iload 4, 2) := by decide +kernel
theorem dX8_pays_45 : decode cX8_pays 45 = .ok (.laload, 1) := by decide +kernel
theorem dX8_pays_46 : decode cX8_pays 46 = .ok (.lcmp, 1) := by decide +kernel
theorem dX8_pays_47 : decode cX8_pays 47 = .ok (.ifCond .ge 13, 3) := by decide +kernel
theorem dX8_pays_50 : decode cX8_pays 50 = .ok (.aload_n 0, 1) := by decide +kernel
theorem dX8_pays_51 : decode cX8_pays 51 = .ok (.getfield 71, 3) := by decide +kernel
theorem dX8_pays_54 : decode cX8_pays 54 = .ok (.iload 4, 2) := by decide +kernel
theorem dX8_pays_56 : decode cX8_pays 56 = .ok (.laload, 1) := by decide +kernel
theorem dX8_pays_57 : decode cX8_pays 57 = .ok (.goto 10, 3) := by decide +kernel
theorem dX8_pays_60 : decode cX8_pays 60 = .ok (.aload_n 0, 1) := by decide +kernel
theorem dX8_pays_61 : decode cX8_pays 61 = .ok (.getfield 75, 3) := by decide +kernel
theorem dX8_pays_64 : decode cX8_pays 64 = .ok (.iload 4, 2) := by decide +kernel
theorem dX8_pays_66 : decode cX8_pays 66 = .ok (.laload, 1) := by decide +kernel
theorem dX8_pays_67 : decode cX8_pays 67 = .ok (.lstore 5, 2) := by decide +kernel
theorem dX8_pays_69 : decode cX8_pays 69 = .ok (.aload_n 0, 1) := by decide +kernel
theorem dX8_pays_70 : decode cX8_pays 70 = .ok (.getfield 71, 3) := by decide +kernel
theorem dX8_pays_73 : decode cX8_pays 73 = .ok (.iload 4, 2) := by decide +kernel
theorem dX8_pays_75 : decode cX8_pays 75 = .ok (.aload_n 0, 1) := by decide +kernel
theorem dX8_pays_76 : decode cX8_pays 76 = .ok (.getfield 71, 3) := by decide +kernel
theorem dX8_pays_79 : decode cX8_pays 79 = .ok (.iload 4, 2) := by decide +kernel
theorem dX8_pays_81 : decode cX8_pays 81 = .ok (.laload, 1) := by decide +kernel
theorem dX8_pays_82 : decode cX8_pays 82 = .ok (.lload 5, 2) := by decide +kernel
theorem dX8_pays_84 : decode cX8_pays 84 = .ok (.lsub, 1) := by decide +kernel
theorem dX8_pays_85 : decode cX8_pays 85 = .ok (.lastore, 1) := by decide +kernel
theorem dX8_pays_86 : decode cX8_pays 86 = .ok (.aload_n 0, 1) := by decide +kernel
theorem dX8_pays_87 : decode cX8_pays 87 = .ok (.getfield 75, 3) := by decide +kernel
theorem dX8_pays_90 : decode cX8_pays 90 = .ok (.iload 4, 2) := by decide +kernel
theorem dX8_pays_92 : decode cX8_pays 92 = .ok (.aload_n 0, 1) := by decide +kernel
theorem dX8_pays_93 : decode cX8_pays 93 = .ok (.getfield 75, 3) := by decide +kernel
theorem dX8_pays_96 : decode cX8_pays 96 = .ok (.iload 4, 2) := by decide +kernel
theorem dX8_pays_98 : decode cX8_pays 98 = .ok (.laload, 1) := by decide +kernel
theorem dX8_pays_99 : decode cX8_pays 99 = .ok (.lload 5, 2) := by decide +kernel
theorem dX8_pays_101 : decode cX8_pays 101 = .ok (.lsub, 1) := by decide +kernel
theorem dX8_pays_102 : decode cX8_pays 102 = .ok (.lastore, 1) := by decide +kernel
theorem dX8_pays_103 : decode cX8_pays 103 = .ok (.aload_n 0, 1) := by decide +kernel
theorem dX8_pays_104 : decode cX8_pays 104 = .ok (.getfield 71, 3) := by decide +kernel
theorem dX8_pays_107 : decode cX8_pays 107 = .ok (.iload 4, 2) := by decide +kernel
theorem dX8_pays_109 : decode cX8_pays 109 = .ok (.laload, 1) := by decide +kernel
theorem dX8_pays_110 : decode cX8_pays 110 = .ok (.ldc2_w 194, 3) := by decide +kernel
theorem dX8_pays_113 : decode cX8_pays 113 = .ok (.lcmp, 1) := by decide +kernel
theorem dX8_pays_114 : decode cX8_pays 114 = .ok (.ifCond .ge 7, 3) := by decide +kernel
theorem dX8_pays_117 : decode cX8_pays 117 = .ok (.iconst 0, 1) := by decide +kernel
theorem dX8_pays_118 : decode cX8_pays 118 = .ok (.goto 15, 3) := by decide +kernel
theorem dX8_pays_121 : decode cX8_pays 121 = .ok (.aload_n 0, 1) := by decide +kernel
theorem dX8_pays_122 : decode cX8_pays 122 = .ok (.getfield 71, 3) := by decide +kernel
theorem dX8_pays_125 : decode cX8_pays 125 = .ok (.iload 4, 2) := by decide +kernel
theorem dX8_pays_127 : decode cX8_pays 127 = .ok (.laload, 1) := by decide +kernel
theorem dX8_pays_128 : decode cX8_pays 128 = .ok (.ldc2_w 194, 3) := by decide +kernel
theorem dX8_pays_131 : decode cX8_pays 131 = .ok (.ldiv, 1) := by decide +kernel
theorem dX8_pays_132 : decode cX8_pays 132 = .ok (.l2i, 1) := by decide +kernel
theorem dX8_pays_133 : decode cX8_pays 133 = .ok (.istore 5, 2) := by decide +kernel
theorem dX8_pays_135 : decode cX8_pays 135 = .ok (.aload_n 0, 1) := by decide +kernel
theorem dX8_pays_136 : decode cX8_pays 136 = .ok (.getfield 87, 3) := by decide +kernel
theorem dX8_pays_139 : decode cX8_pays 139 = .ok (.iload_n 1, 1) := by decide +kernel
theorem dX8_pays_140 : decode cX8_pays 140 = .ok (.iload_n 3, 1) := by decide +kernel
theorem dX8_pays_141 : decode cX8_pays 141 = .ok (.iload_n 2, 1) := by decide +kernel
theorem dX8_pays_142 : decode cX8_pays 142 = .ok (.invokestatic 217, 3) := by decide +kernel
theorem dX8_pays_145 : decode cX8_pays 145 = .ok (.iload 5, 2) := by decide +kernel
theorem dX8_pays_147 : decode cX8_pays 147 = .ok (.iastore, 1) := by decide +kernel
theorem dX8_pays_148 : decode cX8_pays 148 = .ok (.aload_n 0, 1) := by decide +kernel
theorem dX8_pays_149 : decode cX8_pays 149 = .ok (.getfield 71, 3) := by decide +kernel
theorem dX8_pays_152 : decode cX8_pays 152 = .ok (.iload 4, 2) := by decide +kernel
theorem dX8_pays_154 : decode cX8_pays 154 = .ok (.aload_n 0, 1) := by decide +kernel
theorem dX8_pays_155 : decode cX8_pays 155 = .ok (.getfield 71, 3) := by decide +kernel
theorem dX8_pays_158 : decode cX8_pays 158 = .ok (.iload 4, 2) := by decide +kernel
theorem dX8_pays_160 : decode cX8_pays 160 = .ok (.laload, 1) := by decide +kernel
theorem dX8_pays_161 : decode cX8_pays 161 = .ok (.iload 5, 2) := by decide +kernel
theorem dX8_pays_163 : decode cX8_pays 163 = .ok (.i2l, 1) := by decide +kernel
theorem dX8_pays_164 : decode cX8_pays 164 = .ok (.ldc2_w 194, 3) := by decide +kernel
theorem dX8_pays_167 : decode cX8_pays 167 = .ok (.lmul, 1) := by decide +kernel
theorem dX8_pays_168 : decode cX8_pays 168 = .ok (.lsub, 1) := by decide +kernel
theorem dX8_pays_169 : decode cX8_pays 169 = .ok (.lastore, 1) := by decide +kernel
theorem dX8_pays_170 : decode cX8_pays 170 = .ok (.return_, 1) := by decide +kernel
set_option maxRecDepth 20000 in
theorem ggX8_fills_X8_dueAt : GoodIn wsX8_fills wsX8_dueAt := goodIn_r _ [8] (by decide +kernel) (by decide +kernel)
set_option maxRecDepth 20000 in
theorem gX8_fills_X8_dueAt : GoodIn wsX8_fills (va_wsS RX8 217 yX8_dueAt wsX8_dueAt) := goodIn_app (goodIn_of _ (by decide +kernel)) ggX8_fills_X8_dueAt
theorem dX8_fills_0 : decode cX8_fills 0 = .ok (.aload_n 0, 1) := by decide +kernel
theorem dX8_fills_1 : decode cX8_fills 1 = .ok (.getfield 25, 3) := by decide +kernel
theorem dX8_fills_4 : decode cX8_fills 4 = .ok (.iload_n 3, 1) := by decide +kernel
theorem dX8_fills_5 : decode cX8_fills 5 = .ok (.iaload, 1) := by decide +kernel
theorem dX8_fills_6 : decode cX8_fills 6 = .ok (.istore 4, 2) := by decide +kernel
theorem dX8_fills_8 : decode cX8_fills 8 = .ok (.lconst 0, 1) := by decide +kernel
theorem dX8_fills_9 : decode cX8_fills 9 = .ok (.lstore 5, 2) := by decide +kernel
theorem dX8_fills_11 : decode cX8_fills 11 = .ok (.iload_n 2, 1) := by decide +kernel
theorem dX8_fills_12 : decode cX8_fills 12 = .ok (.iconst 3, 1) := by decide +kernel
theorem dX8_fills_13 : decode cX8_fills 13 = .ok (.isub, 1) := by decide +kernel
theorem dX8_fills_14 : decode cX8_fills 14 = .ok (.istore 7, 2) := by decide +kernel
theorem dX8_fills_16 : decode cX8_fills 16 = .ok (.iload 7, 2) := by decide +kernel
theorem dX8_fills_18 : decode cX8_fills 18 = .ok (.iload_n 2, 1) := by decide +kernel
theorem dX8_fills_19 : decode cX8_fills 19 = .ok (.if_icmp .gt 28, 3) := by decide +kernel
theorem dX8_fills_22 : decode cX8_fills 22 = .ok (.lload 5, 2) := by decide +kernel
theorem dX8_fills_24 : decode cX8_fills 24 = .ok (.aload_n 0, 1) := by decide +kernel
theorem dX8_fills_25 : decode cX8_fills 25 = .ok (.getfield 87, 3) := by decide +kernel
theorem dX8_fills_28 : decode cX8_fills 28 = .ok (.iload_n 1, 1) := by decide +kernel
theorem dX8_fills_29 : decode cX8_fills 29 = .ok (.iload 4, 2) := by decide +kernel
theorem dX8_fills_31 : decode cX8_fills 31 = .ok (.iload 7, 2) := by decide +kernel
theorem dX8_fills_33 : decode cX8_fills 33 = .ok (.invokestatic 217, 3) := by decide +kernel
theorem dX8_fills_36 : decode cX8_fills 36 = .ok (.iaload, 1) := by decide +kernel
theorem dX8_fills_37 : decode cX8_fills 37 = .ok (.i2l, 1) := by decide +kernel
theorem dX8_fills_38 : decode cX8_fills 38 = .ok (.ladd, 1) := by decide +kernel
theorem dX8_fills_39 : decode cX8_fills 39 = .ok (.lstore 5, 2) := by decide +kernel
theorem dX8_fills_41 : decode cX8_fills 41 = .ok (.iinc 7 1, 3) := by decide +kernel
theorem dX8_fills_44 : decode cX8_fills 44 = .ok (.goto (-28), 3) := by decide +kernel
theorem dX8_fills_47 : decode cX8_fills 47 = .ok (.lload 5, 2) := by decide +kernel
theorem dX8_fills_49 : decode cX8_fills 49 = .ok (.aload_n 0, 1) := by decide +kernel
theorem dX8_fills_50 : decode cX8_fills 50 = .ok (.getfield 34, 3) := by decide +kernel
theorem dX8_fills_53 : decode cX8_fills 53 = .ok (.iload_n 3, 1) := by decide +kernel
theorem dX8_fills_54 : decode cX8_fills 54 = .ok (.iaload, 1) := by decide +kernel
theorem dX8_fills_55 : decode cX8_fills 55 = .ok (.i2l, 1) := by decide +kernel
theorem dX8_fills_56 : decode cX8_fills 56 = .ok (.lcmp, 1) := by decide +kernel
theorem dX8_fills_57 : decode cX8_fills 57 = .ok (.ifCond .lt 4, 3) := by decide +kernel
theorem dX8_fills_60 : decode cX8_fills 60 = .ok (.return_, 1) := by decide +kernel
theorem dX8_fills_61 : decode cX8_fills 61 = .ok (.aload_n 0, 1) := by decide +kernel
theorem dX8_fills_62 : decode cX8_fills 62 = .ok (.getfield 34, 3) := by decide +kernel
theorem dX8_fills_65 : decode cX8_fills 65 = .ok (.iload_n 3, 1) := by decide +kernel
theorem dX8_fills_66 : decode cX8_fills 66 = .ok (.iaload, 1) := by decide +kernel
theorem dX8_fills_67 : decode cX8_fills 67 = .ok (.i2l, 1) := by decide +kernel
theorem dX8_fills_68 : decode cX8_fills 68 = .ok (.lload 5, 2) := by decide +kernel
theorem dX8_fills_70 : decode cX8_fills 70 = .ok (.lsub, 1) := by decide +kernel
theorem dX8_fills_71 : decode cX8_fills 71 = .ok (.l2i, 1) := by decide +kernel
theorem dX8_fills_72 : decode cX8_fills 72 = .ok (.istore 7, 2) := by decide +kernel
theorem dX8_fills_74 : decode cX8_fills 74 = .ok (.aload_n 0, 1) := by decide +kernel
theorem dX8_fills_75 : decode cX8_fills 75 = .ok (.getfield 87, 3) := by decide +kernel
theorem dX8_fills_78 : decode cX8_fills 78 = .ok (.iload_n 1, 1) := by decide +kernel
theorem dX8_fills_79 : decode cX8_fills 79 = .ok (.iload 4, 2) := by decide +kernel
theorem dX8_fills_81 : decode cX8_fills 81 = .ok (.iload_n 2, 1) := by decide +kernel
theorem dX8_fills_82 : decode cX8_fills 82 = .ok (.invokestatic 217, 3) := by decide +kernel
theorem dX8_fills_85 : decode cX8_fills 85 = .ok (.aload_n 0, 1) := by decide +kernel
theorem dX8_fills_86 : decode cX8_fills 86 = .ok (.getfield 87, 3) := by decide +kernel
theorem dX8_fills_89 : decode cX8_fills 89 = .ok (.iload_n 1, 1) := by decide +kernel
theorem dX8_fills_90 : decode cX8_fills 90 = .ok (.iload 4, 2) := by decide +kernel
theorem dX8_fills_92 : decode cX8_fills 92 = .ok (.iload_n 2, 1) := by decide +kernel
theorem dX8_fills_93 : decode cX8_fills 93 = .ok (.invokestatic 217, 3) := by decide +kernel
theorem dX8_fills_96 : decode cX8_fills 96 = .ok (.iaload, 1) := by decide +kernel
theorem dX8_fills_97 : decode cX8_fills 97 = .ok (.iload 7, 2) := by decide +kernel
theorem dX8_fills_99 : decode cX8_fills 99 = .ok (.iadd, 1) := by decide +kernel
theorem dX8_fills_100 : decode cX8_fills 100 = .ok (.iastore, 1) := by decide +kernel
theorem dX8_fills_101 : decode cX8_fills 101 = .ok (.aload_n 0, 1) := by decide +kernel
theorem dX8_fills_102 : decode cX8_fills 102 = .ok (.getfield 90, 3) := by decide +kernel
theorem dX8_fills_105 : decode cX8_fills 105 = .ok (.bipush 12, 2) := by decide +kernel
theorem dX8_fills_107 : decode cX8_fills 107 = .ok (.iload_n 1, 1) := by decide +kernel
theorem dX8_fills_108 : decode cX8_fills 108 = .ok (.imul, 1) := by decide +kernel
theorem dX8_fills_109 : decode cX8_fills 109 = .ok (.iload 4, 2) := by decide +kernel
theorem dX8_fills_111 : decode cX8_fills 111 = .ok (.iadd, 1) := by decide +kernel
theorem dX8_fills_112 : decode cX8_fills 112 = .ok (.aload_n 0, 1) := by decide +kernel
theorem dX8_fills_113 : decode cX8_fills 113 = .ok (.getfield 90, 3) := by decide +kernel
theorem dX8_fills_116 : decode cX8_fills 116 = .ok (.bipush 12, 2) := by decide +kernel
theorem dX8_fills_118 : decode cX8_fills 118 = .ok (.iload_n 1, 1) := by decide +kernel
theorem dX8_fills_119 : decode cX8_fills 119 = .ok (.imul, 1) := by decide +kernel
theorem dX8_fills_120 : decode cX8_fills 120 = .ok (.iload 4, 2) := by decide +kernel
theorem dX8_fills_122 : decode cX8_fills 122 = .ok (.iadd, 1) := by decide +kernel
theorem dX8_fills_123 : decode cX8_fills 123 = .ok (.iaload, 1) := by decide +kernel
theorem dX8_fills_124 : decode cX8_fills 124 = .ok (.iload 7, 2) := by decide +kernel
theorem dX8_fills_126 : decode cX8_fills 126 = .ok (.iadd, 1) := by decide +kernel
theorem dX8_fills_127 : decode cX8_fills 127 = .ok (.iastore, 1) := by decide +kernel
theorem dX8_fills_128 : decode cX8_fills 128 = .ok (.return_, 1) := by decide +kernel
set_option maxRecDepth 20000 in
theorem ggX8_close_X8_closes : GoodIn wsX8_close wsX8_closes := goodIn_r _ [7, 8, 9, 10, 11, 12, 13, 14, 15, 16, 17, 18, 19, 20, 21, 22, 23, 6, 24, 25, 26, 27, 28, 29, 30, 31, 32, 33, 34, 35, 36, 37, 38, 39, 40, 41, 42, 43, 44, 45, 46, 47, 48, 49, 50, 51, 52, 53, 54, 55, 2, 56, 57, 58, 59, 60, 61, 62, 63, 64, 65, 66, 67, 68, 69, 70, 71, 72, 73, 74, 75, 76, 77, 78, 79, 80, 81, 82, 83, 84, 85, 86, 87, 88, 89, 90, 91, 92, 93, 94, 95, 96, 97, 98, 99, 100, 101, 102, 103, 104, 105, 106, 107, 108, 109, 110, 111, 112, 113, 114, 115, 116, 117, 118, 119, 120, 121, 122, 123, 124, 125, 126, 127, 128, 129, 130, 131, 132, 133] (by decide +kernel) (by decide +kernel)
set_option maxRecDepth 20000 in
theorem gX8_close_X8_closes : GoodIn wsX8_close (wsV RX8 220 RX8 yX8_closes wsX8_closes) := goodIn_app (goodIn_of _ (by decide +kernel)) ggX8_close_X8_closes
theorem dX8_close_0 : decode cX8_close 0 = .ok (.aload_n 0, 1) := by decide +kernel
theorem dX8_close_1 : decode cX8_close 1 = .ok (.getfield 136, 3) := by decide +kernel
theorem dX8_close_4 : decode cX8_close 4 = .ok (.bipush 40, 2) := by decide +kernel
theorem dX8_close_6 : decode cX8_close 6 = .ok (.if_icmp .ne 5, 3) := by decide +kernel
theorem dX8_close_9 : decode cX8_close 9 = .ok (.iconst (-1), 1) := by decide +kernel
theorem dX8_close_10 : decode cX8_close 10 = .ok (.ireturn, 1) := by decide +kernel
theorem dX8_close_11 : decode cX8_close 11 = .ok (.aload_n 0, 1) := by decide +kernel
theorem dX8_close_12 : decode cX8_close 12 = .ok (.iconst 0, 1) := by decide +kernel
theorem dX8_close_13 : decode cX8_close 13 = .ok (.putfield 178, 3) := by decide +kernel
theorem dX8_close_16 : decode cX8_close 16 = .ok (.aload_n 0, 1) := by decide +kernel
theorem dX8_close_17 : decode cX8_close 17 = .ok (.iconst 0, 1) := by decide +kernel
theorem dX8_close_18 : decode cX8_close 18 = .ok (.aload_n 0, 1) := by decide +kernel
theorem dX8_close_19 : decode cX8_close 19 = .ok (.getfield 136, 3) := by decide +kernel
theorem dX8_close_22 : decode cX8_close 22 = .ok (.invokevirtual 220, 3) := by decide +kernel
theorem dX8_close_25 : decode cX8_close 25 = .ok (.aload_n 0, 1) := by decide +kernel
theorem dX8_close_26 : decode cX8_close 26 = .ok (.aload_n 0, 1) := by decide +kernel
theorem dX8_close_27 : decode cX8_close 27 = .ok (.getfield 136, 3) := by decide +kernel
theorem dX8_close_30 : decode cX8_close 30 = .ok (.iconst 1, 1) := by decide +kernel
theorem dX8_close_31 : decode cX8_close 31 = .ok (.iadd, 1) := by decide +kernel
theorem dX8_close_32 : decode cX8_close 32 = .ok (.putfield 136, 3) := by decide +kernel
theorem dX8_close_35 : decode cX8_close 35 = .ok (.aload_n 0, 1) := by decide +kernel
theorem dX8_close_36 : decode cX8_close 36 = .ok (.getfield 136, 3) := by decide +kernel
theorem dX8_close_39 : decode cX8_close 39 = .ok (.iconst 1, 1) := by decide +kernel
theorem dX8_close_40 : decode cX8_close 40 = .ok (.isub, 1) := by decide +kernel
theorem dX8_close_41 : decode cX8_close 41 = .ok (.ireturn, 1) := by decide +kernel
set_option maxRecDepth 20000 in
theorem ggX8_takes_X8_bag : GoodIn wsX8_takes wsX8_bag := goodIn_r _ [10] (by decide +kernel) (by decide +kernel)
set_option maxRecDepth 20000 in
theorem gX8_takes_X8_bag : GoodIn wsX8_takes (va_wsS RX8 196 yX8_bag wsX8_bag) := goodIn_app (goodIn_of _ (by decide +kernel)) ggX8_takes_X8_bag
theorem dX8_takes_0 : decode cX8_takes 0 = .ok (.iload_n 3, 1) := by decide +kernel
theorem dX8_takes_1 : decode cX8_takes 1 = .ok (.i2l, 1) := by decide +kernel
theorem dX8_takes_2 : decode cX8_takes 2 = .ok (.ldc2_w 194, 3) := by decide +kernel
theorem dX8_takes_5 : decode cX8_takes 5 = .ok (.lmul, 1) := by decide +kernel
theorem dX8_takes_6 : decode cX8_takes 6 = .ok (.lstore 4, 2) := by decide +kernel
theorem dX8_takes_8 : decode cX8_takes 8 = .ok (.iconst 0, 1) := by decide +kernel
theorem dX8_takes_9 : decode cX8_takes 9 = .ok (.istore 6, 2) := by decide +kernel
theorem dX8_takes_11 : decode cX8_takes 11 = .ok (.iload 6, 2) := by decide +kernel
theorem dX8_takes_13 : decode cX8_takes 13 = .ok (.bipush 40, 2) := by decide +kernel
theorem dX8_takes_15 : decode cX8_takes 15 = .ok (.if_icmp .ge 113, 3) := by decide +kernel
theorem dX8_takes_18 : decode cX8_takes 18 = .ok (.iconst 0, 1) := by decide +kernel
theorem dX8_takes_19 : decode cX8_takes 19 = .ok (.istore 7, 2) := by decide +kernel
theorem dX8_takes_21 : decode cX8_takes 21 = .ok (.iload 7, 2) := by decide +kernel
theorem dX8_takes_23 : decode cX8_takes 23 = .ok (.aload_n 0, 1) := by decide +kernel
theorem dX8_takes_24 : decode cX8_takes 24 = .ok (.getfield 157, 3) := by decide +kernel
theorem dX8_takes_27 : decode cX8_takes 27 = .ok (.if_icmp .ge 95, 3) := by decide +kernel
theorem dX8_takes_30 : decode cX8_takes 30 = .ok (.aload_n 0, 1) := by decide +kernel
theorem dX8_takes_31 : decode cX8_takes 31 = .ok (.getfield 22, 3) := by decide +kernel
theorem dX8_takes_34 : decode cX8_takes 34 = .ok (.iload 7, 2) := by decide +kernel
theorem dX8_takes_36 : decode cX8_takes 36 = .ok (.iaload, 1) := by decide +kernel
theorem dX8_takes_37 : decode cX8_takes 37 = .ok (.iconst 4, 1) := by decide +kernel
theorem dX8_takes_38 : decode cX8_takes 38 = .ok (.if_icmp .ne 78, 3) := by decide +kernel
theorem dX8_takes_41 : decode cX8_takes 41 = .ok (.aload_n 0, 1) := by decide +kernel
theorem dX8_takes_42 : decode cX8_takes 42 = .ok (.getfield 25, 3) := by decide +kernel
theorem dX8_takes_45 : decode cX8_takes 45 = .ok (.iload 7, 2) := by decide +kernel
theorem dX8_takes_47 : decode cX8_takes 47 = .ok (.iaload, 1) := by decide +kernel
theorem dX8_takes_48 : decode cX8_takes 48 = .ok (.iload_n 2, 1) := by decide +kernel
theorem dX8_takes_49 : decode cX8_takes 49 = .ok (.if_icmp .eq 6, 3) := by decide +kernel
theorem dX8_takes_52 : decode cX8_takes 52 = .ok (.goto 64, 3) := by decide +kernel
theorem dX8_takes_55 : decode cX8_takes 55 = .ok (.iload_n 1, 1) := by decide +kernel
theorem dX8_takes_56 : decode cX8_takes 56 = .ok (.iload 7, 2) := by decide +kernel
theorem dX8_takes_58 : decode cX8_takes 58 = .ok (.iload 6, 2) := by decide +kernel
theorem dX8_takes_60 : decode cX8_takes 60 = .ok (.invokestatic 196, 3) := by decide +kernel
theorem dX8_takes_63 : decode cX8_takes 63 = .ok (.istore 8, 2) := by decide +kernel
theorem dX8_takes_65 : decode cX8_takes 65 = .ok (.aload_n 0, 1) := by decide +kernel
theorem dX8_takes_66 : decode cX8_takes 66 = .ok (.getfield 84, 3) := by decide +kernel
theorem dX8_takes_69 : decode cX8_takes 69 = .ok (.iload 8, 2) := by decide +kernel
theorem dX8_takes_71 : decode cX8_takes 71 = .ok (.laload, 1) := by decide +kernel
theorem dX8_takes_72 : decode cX8_takes 72 = .ok (.lload 4, 2) := by decide +kernel
theorem dX8_takes_74 : decode cX8_takes 74 = .ok (.lcmp, 1) := by decide +kernel
theorem dX8_takes_75 : decode cX8_takes 75 = .ok (.ifCond .ge 13, 3) := by decide +kernel
theorem dX8_takes_78 : decode cX8_takes 78 = .ok (.aload_n 0, 1) := by decide +kernel
theorem dX8_takes_79 : decode cX8_takes 79 = .ok (.getfield 84, 3) := by decide +kernel
theorem dX8_takes_82 : decode cX8_takes 82 = .ok (.iload 8, 2) := by decide +kernel
theorem dX8_takes_84 : decode cX8_takes 84 = .ok (.laload, 1) := by decide +kernel
theorem dX8_takes_85 : decode cX8_takes 85 = .ok (.goto 5, 3) := by decide +kernel
theorem dX8_takes_88 : decode cX8_takes 88 = .ok (.lload 4, 2) := by decide +kernel
theorem dX8_takes_90 : decode cX8_takes 90 = .ok (.lstore 9, 2) := by decide +kernel
theorem dX8_takes_92 : decode cX8_takes 92 = .ok (.aload_n 0, 1) := by decide +kernel
theorem dX8_takes_93 : decode cX8_takes 93 = .ok (.getfield 84, 3) := by decide +kernel
theorem dX8_takes_96 : decode cX8_takes 96 = .ok (.iload 8, 2) := by decide +kernel
theorem dX8_takes_98 : decode cX8_takes 98 = .ok (.aload_n 0, 1) := by decide +kernel
theorem dX8_takes_99 : decode cX8_takes 99 = .ok (.getfield 84, 3) := by decide +kernel
theorem dX8_takes_102 : decode cX8_takes 102 = .ok (.iload 8, 2) := by decide +kernel
theorem dX8_takes_104 : decode cX8_takes 104 = .ok (.laload, 1) := by decide +kernel
theorem dX8_takes_105 : decode cX8_takes 105 = .ok (.lload 9, 2) := by decide +kernel
theorem dX8_takes_107 : decode cX8_takes 107 = .ok (.lsub, 1) := by decide +kernel
theorem dX8_takes_108 : decode cX8_takes 108 = .ok (.lastore, 1) := by decide +kernel
theorem dX8_takes_109 : decode cX8_takes 109 = .ok (.lload 4, 2) := by decide +kernel
theorem dX8_takes_111 : decode cX8_takes 111 = .ok (.lload 9, 2) := by decide +kernel
theorem dX8_takes_113 : decode cX8_takes 113 = .ok (.lsub, 1) := by decide +kernel
theorem dX8_takes_114 : decode cX8_takes 114 = .ok (.lstore 4, 2) := by decide +kernel
theorem dX8_takes_116 : decode cX8_takes 116 = .ok (.iinc 7 1, 3) := by decide +kernel
theorem dX8_takes_119 : decode cX8_takes 119 = .ok (.goto (-98), 3) := by decide +kernel
theorem dX8_takes_122 : decode cX8_takes 122 = .ok (.iinc 6 1, 3) := by decide +kernel
theorem dX8_takes_125 : decode cX8_takes 125 = .ok (.goto (-114), 3) := by decide +kernel
theorem dX8_takes_128 : decode cX8_takes 128 = .ok (.aload_n 0, 1) := by decide +kernel
theorem dX8_takes_129 : decode cX8_takes 129 = .ok (.getfield 75, 3) := by decide +kernel
theorem dX8_takes_132 : decode cX8_takes 132 = .ok (.bipush 12, 2) := by decide +kernel
theorem dX8_takes_134 : decode cX8_takes 134 = .ok (.iload_n 1, 1) := by decide +kernel
theorem dX8_takes_135 : decode cX8_takes 135 = .ok (.imul, 1) := by decide +kernel
theorem dX8_takes_136 : decode cX8_takes 136 = .ok (.iload_n 2, 1) := by decide +kernel
theorem dX8_takes_137 : decode cX8_takes 137 = .ok (.iadd, 1) := by decide +kernel
theorem dX8_takes_138 : decode cX8_takes 138 = .ok (.aload_n 0, 1) := by decide +kernel
theorem dX8_takes_139 : decode cX8_takes 139 = .ok (.getfield 75, 3) := by decide +kernel
theorem dX8_takes_142 : decode cX8_takes 142 = .ok (.bipush 12, 2) := by decide +kernel
theorem dX8_takes_144 : decode cX8_takes 144 = .ok (.iload_n 1, 1) := by decide +kernel
theorem dX8_takes_145 : decode cX8_takes 145 = .ok (.imul, 1) := by decide +kernel
