theorem d_L_value_0 : decode c_L_value 0 = .ok (.aload 6, 2) := by decide +kernel
theorem d_L_value_2 : decode c_L_value 2 = .ok (.iconst 0, 1) := by decide +kernel
theorem d_L_value_3 : decode c_L_value 3 = .ok (.aload_n 0, 1) := by decide +kernel
theorem d_L_value_4 : decode c_L_value 4 = .ok (.lload_n 1, 1) := by decide +kernel
theorem d_L_value_5 : decode c_L_value 5 = .ok (.lload_n 3, 1) := by decide +kernel
theorem d_L_value_6 : decode c_L_value 6 = .ok (.iload 5, 2) := by decide +kernel
theorem d_L_value_8 : decode c_L_value 8 = .ok (.invokevirtual 7, 3) := by decide +kernel
theorem d_L_value_11 : decode c_L_value 11 = .ok (.i2l, 1) := by decide +kernel
theorem d_L_value_12 : decode c_L_value 12 = .ok (.lastore, 1) := by decide +kernel
theorem d_L_value_13 : decode c_L_value 13 = .ok (.goto 7, 3) := by decide +kernel
theorem d_L_value_16 : decode c_L_value 16 = .ok (.astore 7, 2) := by decide +kernel
theorem d_L_value_18 : decode c_L_value 18 = .ok (.iconst 1, 1) := by decide +kernel
theorem d_L_value_19 : decode c_L_value 19 = .ok (.ireturn, 1) := by decide +kernel
theorem d_L_value_20 : decode c_L_value 20 = .ok (.iconst 0, 1) := by decide +kernel
theorem d_L_value_21 : decode c_L_value 21 = .ok (.ireturn, 1) := by decide +kernel
theorem d_L_over_0 : decode c_L_over 0 = .ok (.aload_n 3, 1) := by decide +kernel
theorem d_L_over_1 : decode c_L_over 1 = .ok (.iconst 0, 1) := by decide +kernel
theorem d_L_over_2 : decode c_L_over 2 = .ok (.aload_n 0, 1) := by decide +kernel
theorem d_L_over_3 : decode c_L_over 3 = .ok (.iload_n 1, 1) := by decide +kernel
theorem d_L_over_4 : decode c_L_over 4 = .ok (.iload_n 2, 1) := by decide +kernel
theorem d_L_over_5 : decode c_L_over 5 = .ok (.invokevirtual 15, 3) := by decide +kernel
theorem d_L_over_8 : decode c_L_over 8 = .ok (.i2l, 1) := by decide +kernel
theorem d_L_over_9 : decode c_L_over 9 = .ok (.lastore, 1) := by decide +kernel
theorem d_L_over_10 : decode c_L_over 10 = .ok (.goto 7, 3) := by decide +kernel
theorem d_L_over_13 : decode c_L_over 13 = .ok (.astore 4, 2) := by decide +kernel
theorem d_L_over_15 : decode c_L_over 15 = .ok (.iconst 1, 1) := by decide +kernel
theorem d_L_over_16 : decode c_L_over 16 = .ok (.ireturn, 1) := by decide +kernel
theorem d_L_over_17 : decode c_L_over 17 = .ok (.iconst 0, 1) := by decide +kernel
theorem d_L_over_18 : decode c_L_over 18 = .ok (.ireturn, 1) := by decide +kernel
theorem d_L_digit_0 : decode c_L_digit 0 = .ok (.aload 4, 2) := by decide +kernel
theorem d_L_digit_2 : decode c_L_digit 2 = .ok (.iconst 0, 1) := by decide +kernel
theorem d_L_digit_3 : decode c_L_digit 3 = .ok (.aload_n 0, 1) := by decide +kernel
theorem d_L_digit_4 : decode c_L_digit 4 = .ok (.iload_n 1, 1) := by decide +kernel
theorem d_L_digit_5 : decode c_L_digit 5 = .ok (.iload_n 2, 1) := by decide +kernel
theorem d_L_digit_6 : decode c_L_digit 6 = .ok (.iload_n 3, 1) := by decide +kernel
theorem d_L_digit_7 : decode c_L_digit 7 = .ok (.invokevirtual 19, 3) := by decide +kernel
theorem d_L_digit_10 : decode c_L_digit 10 = .ok (.i2l, 1) := by decide +kernel
theorem d_L_digit_11 : decode c_L_digit 11 = .ok (.lastore, 1) := by decide +kernel
theorem d_L_digit_12 : decode c_L_digit 12 = .ok (.goto 7, 3) := by decide +kernel
theorem d_L_digit_15 : decode c_L_digit 15 = .ok (.astore 5, 2) := by decide +kernel
theorem d_L_digit_17 : decode c_L_digit 17 = .ok (.iconst 1, 1) := by decide +kernel
theorem d_L_digit_18 : decode c_L_digit 18 = .ok (.ireturn, 1) := by decide +kernel
theorem d_L_digit_19 : decode c_L_digit 19 = .ok (.iconst 0, 1) := by decide +kernel
theorem d_L_digit_20 : decode c_L_digit 20 = .ok (.ireturn, 1) := by decide +kernel
theorem d_L_law_0 : decode code 0 = .ok (.new 8, 3) := by decide +kernel
theorem d_L_law_3 : decode code 3 = .ok (.dup, 1) := by decide +kernel
theorem d_L_law_4 : decode code 4 = .ok (.invokespecial 25, 3) := by decide +kernel
theorem d_L_law_7 : decode code 7 = .ok (.astore_n 1, 1) := by decide +kernel
theorem d_L_law_8 : decode code 8 = .ok (.new 26, 3) := by decide +kernel
theorem d_L_law_11 : decode code 11 = .ok (.dup, 1) := by decide +kernel
theorem d_L_law_12 : decode code 12 = .ok (.invokespecial 28, 3) := by decide +kernel
theorem d_L_law_15 : decode code 15 = .ok (.astore_n 2, 1) := by decide +kernel
theorem d_L_law_16 : decode code 16 = .ok (.iconst 1, 1) := by decide +kernel
theorem d_L_law_17 : decode code 17 = .ok (.newarray .long, 2) := by decide +kernel
theorem d_L_law_19 : decode code 19 = .ok (.astore_n 3, 1) := by decide +kernel
theorem d_L_law_20 : decode code 20 = .ok (.iconst 0, 1) := by decide +kernel
theorem d_L_law_21 : decode code 21 = .ok (.istore 4, 2) := by decide +kernel
theorem d_L_law_23 : decode code 23 = .ok (.iload 4, 2) := by decide +kernel
theorem d_L_law_25 : decode code 25 = .ok (.aload_n 0, 1) := by decide +kernel
theorem d_L_law_26 : decode code 26 = .ok (.arraylength, 1) := by decide +kernel
theorem d_L_law_27 : decode code 27 = .ok (.bipush 8, 2) := by decide +kernel
theorem d_L_law_29 : decode code 29 = .ok (.isub, 1) := by decide +kernel
theorem d_L_law_30 : decode code 30 = .ok (.if_icmp .gt 909, 3) := by decide +kernel
theorem d_L_law_33 : decode code 33 = .ok (.aload_n 0, 1) := by decide +kernel
theorem d_L_law_34 : decode code 34 = .ok (.iload 4, 2) := by decide +kernel
theorem d_L_law_36 : decode code 36 = .ok (.iaload, 1) := by decide +kernel
theorem d_L_law_37 : decode code 37 = .ok (.bipush 15, 2) := by decide +kernel
theorem d_L_law_39 : decode code 39 = .ok (.iand, 1) := by decide +kernel
theorem d_L_law_40 : decode code 40 = .ok (.tableswitch 893 0 12 #[68, 212, 249, 286, 354, 435, 472, 633, 670, 727, 764, 844, 882], 68) := by decide +kernel
theorem d_L_law_108 : decode code 108 = .ok (.aload_n 1, 1) := by decide +kernel
theorem d_L_law_109 : decode code 109 = .ok (.aload_n 0, 1) := by decide +kernel
theorem d_L_law_110 : decode code 110 = .ok (.iload 4, 2) := by decide +kernel
theorem d_L_law_112 : decode code 112 = .ok (.iconst 1, 1) := by decide +kernel
theorem d_L_law_113 : decode code 113 = .ok (.iadd, 1) := by decide +kernel
theorem d_L_law_114 : decode code 114 = .ok (.iaload, 1) := by decide +kernel
theorem d_L_law_115 : decode code 115 = .ok (.i2l, 1) := by decide +kernel
theorem d_L_law_116 : decode code 116 = .ok (.bipush 32, 2) := by decide +kernel
theorem d_L_law_118 : decode code 118 = .ok (.lshl, 1) := by decide +kernel
theorem d_L_law_119 : decode code 119 = .ok (.aload_n 0, 1) := by decide +kernel
theorem d_L_law_120 : decode code 120 = .ok (.iload 4, 2) := by decide +kernel
theorem d_L_law_122 : decode code 122 = .ok (.iconst 2, 1) := by decide +kernel
theorem d_L_law_123 : decode code 123 = .ok (.iadd, 1) := by decide +kernel
theorem d_L_law_124 : decode code 124 = .ok (.iaload, 1) := by decide +kernel
theorem d_L_law_125 : decode code 125 = .ok (.i2l, 1) := by decide +kernel
theorem d_L_law_126 : decode code 126 = .ok (.ldc2_w 29, 3) := by decide +kernel
theorem d_L_law_129 : decode code 129 = .ok (.land, 1) := by decide +kernel
theorem d_L_law_130 : decode code 130 = .ok (.lor, 1) := by decide +kernel
theorem d_L_law_131 : decode code 131 = .ok (.aload_n 0, 1) := by decide +kernel
theorem d_L_law_132 : decode code 132 = .ok (.iload 4, 2) := by decide +kernel
theorem d_L_law_134 : decode code 134 = .ok (.iconst 3, 1) := by decide +kernel
theorem d_L_law_135 : decode code 135 = .ok (.iadd, 1) := by decide +kernel
theorem d_L_law_136 : decode code 136 = .ok (.iaload, 1) := by decide +kernel
theorem d_L_law_137 : decode code 137 = .ok (.i2l, 1) := by decide +kernel
theorem d_L_law_138 : decode code 138 = .ok (.bipush 32, 2) := by decide +kernel
theorem d_L_law_140 : decode code 140 = .ok (.lshl, 1) := by decide +kernel
theorem d_L_law_141 : decode code 141 = .ok (.aload_n 0, 1) := by decide +kernel
theorem d_L_law_142 : decode code 142 = .ok (.iload 4, 2) := by decide +kernel
theorem d_L_law_144 : decode code 144 = .ok (.iconst 4, 1) := by decide +kernel
theorem d_L_law_145 : decode code 145 = .ok (.iadd, 1) := by decide +kernel
theorem d_L_law_146 : decode code 146 = .ok (.iaload, 1) := by decide +kernel
theorem d_L_law_147 : decode code 147 = .ok (.i2l, 1) := by decide +kernel
theorem d_L_law_148 : decode code 148 = .ok (.ldc2_w 29, 3) := by decide +kernel
theorem d_L_law_151 : decode code 151 = .ok (.land, 1) := by decide +kernel
theorem d_L_law_152 : decode code 152 = .ok (.lor, 1) := by decide +kernel
theorem d_L_law_153 : decode code 153 = .ok (.aload_n 0, 1) := by decide +kernel
theorem d_L_law_154 : decode code 154 = .ok (.iload 4, 2) := by decide +kernel
theorem d_L_law_156 : decode code 156 = .ok (.iconst 5, 1) := by decide +kernel
theorem d_L_law_157 : decode code 157 = .ok (.iadd, 1) := by decide +kernel
theorem d_L_law_158 : decode code 158 = .ok (.iaload, 1) := by decide +kernel
theorem d_L_law_159 : decode code 159 = .ok (.aload_n 3, 1) := by decide +kernel
theorem d_L_law_160 : decode code 160 = .ok (.invokestatic 31, 3) := by decide +kernel
theorem d_L_law_163 : decode code 163 = .ok (.istore 5, 2) := by decide +kernel
theorem d_L_law_165 : decode code 165 = .ok (.aload_n 2, 1) := by decide +kernel
theorem d_L_law_166 : decode code 166 = .ok (.aload_n 0, 1) := by decide +kernel
theorem d_L_law_167 : decode code 167 = .ok (.iload 4, 2) := by decide +kernel
theorem d_L_law_169 : decode code 169 = .ok (.iconst 1, 1) := by decide +kernel
theorem d_L_law_170 : decode code 170 = .ok (.iadd, 1) := by decide +kernel
theorem d_L_law_171 : decode code 171 = .ok (.iaload, 1) := by decide +kernel
theorem d_L_law_172 : decode code 172 = .ok (.i2l, 1) := by decide +kernel
theorem d_L_law_173 : decode code 173 = .ok (.bipush 32, 2) := by decide +kernel
theorem d_L_law_175 : decode code 175 = .ok (.lshl, 1) := by decide +kernel
theorem d_L_law_176 : decode code 176 = .ok (.aload_n 0, 1) := by decide +kernel
theorem d_L_law_177 : decode code 177 = .ok (.iload 4, 2) := by decide +kernel
theorem d_L_law_179 : decode code 179 = .ok (.iconst 2, 1) := by decide +kernel
theorem d_L_law_180 : decode code 180 = .ok (.iadd, 1) := by decide +kernel
theorem d_L_law_181 : decode code 181 = .ok (.iaload, 1) := by decide +kernel
theorem d_L_law_182 : decode code 182 = .ok (.i2l, 1) := by decide +kernel
theorem d_L_law_183 : decode code 183 = .ok (.ldc2_w 29, 3) := by decide +kernel
theorem d_L_law_186 : decode code 186 = .ok (.land, 1) := by decide +kernel
theorem d_L_law_187 : decode code 187 = .ok (.lor, 1) := by decide +kernel
theorem d_L_law_188 : decode code 188 = .ok (.aload_n 0, 1) := by decide +kernel
theorem d_L_law_189 : decode code 189 = .ok (.iload 4, 2) := by decide +kernel
theorem d_L_law_191 : decode code 191 = .ok (.iconst 3, 1) := by decide +kernel
theorem d_L_law_192 : decode code 192 = .ok (.iadd, 1) := by decide +kernel
theorem d_L_law_193 : decode code 193 = .ok (.iaload, 1) := by decide +kernel
theorem d_L_law_194 : decode code 194 = .ok (.i2l, 1) := by decide +kernel
theorem d_L_law_195 : decode code 195 = .ok (.bipush 32, 2) := by decide +kernel
theorem d_L_law_197 : decode code 197 = .ok (.lshl, 1) := by decide +kernel
theorem d_L_law_198 : decode code 198 = .ok (.aload_n 0, 1) := by decide +kernel
theorem d_L_law_199 : decode code 199 = .ok (.iload 4, 2) := by decide +kernel
theorem d_L_law_201 : decode code 201 = .ok (.iconst 4, 1) := by decide +kernel
theorem d_L_law_202 : decode code 202 = .ok (.iadd, 1) := by decide +kernel
theorem d_L_law_203 : decode code 203 = .ok (.iaload, 1) := by decide +kernel
theorem d_L_law_204 : decode code 204 = .ok (.i2l, 1) := by decide +kernel
theorem d_L_law_205 : decode code 205 = .ok (.ldc2_w 29, 3) := by decide +kernel
theorem d_L_law_208 : decode code 208 = .ok (.land, 1) := by decide +kernel
theorem d_L_law_209 : decode code 209 = .ok (.lor, 1) := by decide +kernel
theorem d_L_law_210 : decode code 210 = .ok (.aload_n 0, 1) := by decide +kernel
theorem d_L_law_211 : decode code 211 = .ok (.iload 4, 2) := by decide +kernel
theorem d_L_law_213 : decode code 213 = .ok (.iconst 5, 1) := by decide +kernel
theorem d_L_law_214 : decode code 214 = .ok (.iadd, 1) := by decide +kernel
theorem d_L_law_215 : decode code 215 = .ok (.iaload, 1) := by decide +kernel
theorem d_L_law_216 : decode code 216 = .ok (.invokevirtual 36, 3) := by decide +kernel
theorem d_L_law_219 : decode code 219 = .ok (.istore 6, 2) := by decide +kernel
theorem d_L_law_221 : decode code 221 = .ok (.aload_n 2, 1) := by decide +kernel
theorem d_L_law_222 : decode code 222 = .ok (.invokevirtual 37, 3) := by decide +kernel
theorem d_L_law_225 : decode code 225 = .ok (.iload 5, 2) := by decide +kernel
theorem d_L_law_227 : decode code 227 = .ok (.if_icmp .eq 5, 3) := by decide +kernel
theorem d_L_law_230 : decode code 230 = .ok (.iconst 0, 1) := by decide +kernel
theorem d_L_law_231 : decode code 231 = .ok (.ireturn, 1) := by decide +kernel
theorem d_L_law_232 : decode code 232 = .ok (.iload 5, 2) := by decide +kernel
theorem d_L_law_234 : decode code 234 = .ok (.ifCond .ne 15, 3) := by decide +kernel
theorem d_L_law_237 : decode code 237 = .ok (.aload_n 3, 1) := by decide +kernel
theorem d_L_law_238 : decode code 238 = .ok (.iconst 0, 1) := by decide +kernel
theorem d_L_law_239 : decode code 239 = .ok (.laload, 1) := by decide +kernel
theorem d_L_law_240 : decode code 240 = .ok (.iload 6, 2) := by decide +kernel
theorem d_L_law_242 : decode code 242 = .ok (.i2l, 1) := by decide +kernel
theorem d_L_law_243 : decode code 243 = .ok (.lcmp, 1) := by decide +kernel
theorem d_L_law_244 : decode code 244 = .ok (.ifCond .eq 5, 3) := by decide +kernel
theorem d_L_law_247 : decode code 247 = .ok (.iconst 0, 1) := by decide +kernel
theorem d_L_law_248 : decode code 248 = .ok (.ireturn, 1) := by decide +kernel
theorem d_L_law_249 : decode code 249 = .ok (.goto 684, 3) := by decide +kernel
theorem d_L_law_252 : decode code 252 = .ok (.aload_n 1, 1) := by decide +kernel
theorem d_L_law_253 : decode code 253 = .ok (.aload_n 0, 1) := by decide +kernel
theorem d_L_law_254 : decode code 254 = .ok (.iload 4, 2) := by decide +kernel
theorem d_L_law_256 : decode code 256 = .ok (.iconst 1, 1) := by decide +kernel
theorem d_L_law_257 : decode code 257 = .ok (.iadd, 1) := by decide +kernel
theorem d_L_law_258 : decode code 258 = .ok (.iaload, 1) := by decide +kernel
theorem d_L_law_259 : decode code 259 = .ok (.aload_n 0, 1) := by decide +kernel
theorem d_L_law_260 : decode code 260 = .ok (.iload 4, 2) := by decide +kernel
theorem d_L_law_262 : decode code 262 = .ok (.iconst 2, 1) := by decide +kernel
theorem d_L_law_263 : decode code 263 = .ok (.iadd, 1) := by decide +kernel
theorem d_L_law_264 : decode code 264 = .ok (.iaload, 1) := by decide +kernel
theorem d_L_law_265 : decode code 265 = .ok (.invokevirtual 41, 3) := by decide +kernel
theorem d_L_law_268 : decode code 268 = .ok (.aload_n 2, 1) := by decide +kernel
theorem d_L_law_269 : decode code 269 = .ok (.aload_n 0, 1) := by decide +kernel
theorem d_L_law_270 : decode code 270 = .ok (.iload 4, 2) := by decide +kernel
theorem d_L_law_272 : decode code 272 = .ok (.iconst 1, 1) := by decide +kernel
theorem d_L_law_273 : decode code 273 = .ok (.iadd, 1) := by decide +kernel
theorem d_L_law_274 : decode code 274 = .ok (.iaload, 1) := by decide +kernel
theorem d_L_law_275 : decode code 275 = .ok (.aload_n 0, 1) := by decide +kernel
theorem d_L_law_276 : decode code 276 = .ok (.iload 4, 2) := by decide +kernel
theorem d_L_law_278 : decode code 278 = .ok (.iconst 2, 1) := by decide +kernel
theorem d_L_law_279 : decode code 279 = .ok (.iadd, 1) := by decide +kernel
theorem d_L_law_280 : decode code 280 = .ok (.iaload, 1) := by decide +kernel
theorem d_L_law_281 : decode code 281 = .ok (.invokevirtual 44, 3) := by decide +kernel
theorem d_L_law_284 : decode code 284 = .ok (.if_icmp .eq 649, 3) := by decide +kernel
theorem d_L_law_287 : decode code 287 = .ok (.iconst 0, 1) := by decide +kernel
theorem d_L_law_288 : decode code 288 = .ok (.ireturn, 1) := by decide +kernel
theorem d_L_law_289 : decode code 289 = .ok (.aload_n 1, 1) := by decide +kernel
theorem d_L_law_290 : decode code 290 = .ok (.aload_n 0, 1) := by decide +kernel
theorem d_L_law_291 : decode code 291 = .ok (.iload 4, 2) := by decide +kernel
theorem d_L_law_293 : decode code 293 = .ok (.iconst 1, 1) := by decide +kernel
theorem d_L_law_294 : decode code 294 = .ok (.iadd, 1) := by decide +kernel
theorem d_L_law_295 : decode code 295 = .ok (.iaload, 1) := by decide +kernel
theorem d_L_law_296 : decode code 296 = .ok (.aload_n 0, 1) := by decide +kernel
theorem d_L_law_297 : decode code 297 = .ok (.iload 4, 2) := by decide +kernel
theorem d_L_law_299 : decode code 299 = .ok (.iconst 2, 1) := by decide +kernel
theorem d_L_law_300 : decode code 300 = .ok (.iadd, 1) := by decide +kernel
theorem d_L_law_301 : decode code 301 = .ok (.iaload, 1) := by decide +kernel
theorem d_L_law_302 : decode code 302 = .ok (.invokevirtual 45, 3) := by decide +kernel
theorem d_L_law_305 : decode code 305 = .ok (.aload_n 2, 1) := by decide +kernel
theorem d_L_law_306 : decode code 306 = .ok (.aload_n 0, 1) := by decide +kernel
theorem d_L_law_307 : decode code 307 = .ok (.iload 4, 2) := by decide +kernel
theorem d_L_law_309 : decode code 309 = .ok (.iconst 1, 1) := by decide +kernel
theorem d_L_law_310 : decode code 310 = .ok (.iadd, 1) := by decide +kernel
theorem d_L_law_311 : decode code 311 = .ok (.iaload, 1) := by decide +kernel
theorem d_L_law_312 : decode code 312 = .ok (.aload_n 0, 1) := by decide +kernel
theorem d_L_law_313 : decode code 313 = .ok (.iload 4, 2) := by decide +kernel
theorem d_L_law_315 : decode code 315 = .ok (.iconst 2, 1) := by decide +kernel
theorem d_L_law_316 : decode code 316 = .ok (.iadd, 1) := by decide +kernel
theorem d_L_law_317 : decode code 317 = .ok (.iaload, 1) := by decide +kernel
theorem d_L_law_318 : decode code 318 = .ok (.invokevirtual 48, 3) := by decide +kernel
theorem d_L_law_321 : decode code 321 = .ok (.if_icmp .eq 612, 3) := by decide +kernel
theorem d_L_law_324 : decode code 324 = .ok (.iconst 0, 1) := by decide +kernel
theorem d_L_law_325 : decode code 325 = .ok (.ireturn, 1) := by decide +kernel
theorem d_L_law_326 : decode code 326 = .ok (.aload_n 1, 1) := by decide +kernel
theorem d_L_law_327 : decode code 327 = .ok (.aload_n 0, 1) := by decide +kernel
theorem d_L_law_328 : decode code 328 = .ok (.iload 4, 2) := by decide +kernel
theorem d_L_law_330 : decode code 330 = .ok (.iconst 1, 1) := by decide +kernel
theorem d_L_law_331 : decode code 331 = .ok (.iadd, 1) := by decide +kernel
theorem d_L_law_332 : decode code 332 = .ok (.iaload, 1) := by decide +kernel
theorem d_L_law_333 : decode code 333 = .ok (.aload_n 0, 1) := by decide +kernel
theorem d_L_law_334 : decode code 334 = .ok (.iload 4, 2) := by decide +kernel
theorem d_L_law_336 : decode code 336 = .ok (.iconst 2, 1) := by decide +kernel
theorem d_L_law_337 : decode code 337 = .ok (.iadd, 1) := by decide +kernel
theorem d_L_law_338 : decode code 338 = .ok (.iaload, 1) := by decide +kernel
theorem d_L_law_339 : decode code 339 = .ok (.aload_n 3, 1) := by decide +kernel
theorem d_L_law_340 : decode code 340 = .ok (.invokestatic 49, 3) := by decide +kernel
theorem d_L_law_343 : decode code 343 = .ok (.istore 5, 2) := by decide +kernel
theorem d_L_law_345 : decode code 345 = .ok (.aload_n 2, 1) := by decide +kernel
theorem d_L_law_346 : decode code 346 = .ok (.aload_n 0, 1) := by decide +kernel
theorem d_L_law_347 : decode code 347 = .ok (.iload 4, 2) := by decide +kernel
theorem d_L_law_349 : decode code 349 = .ok (.iconst 1, 1) := by decide +kernel
theorem d_L_law_350 : decode code 350 = .ok (.iadd, 1) := by decide +kernel
theorem d_L_law_351 : decode code 351 = .ok (.iaload, 1) := by decide +kernel
theorem d_L_law_352 : decode code 352 = .ok (.aload_n 0, 1) := by decide +kernel
theorem d_L_law_353 : decode code 353 = .ok (.iload 4, 2) := by decide +kernel
theorem d_L_law_355 : decode code 355 = .ok (.iconst 2, 1) := by decide +kernel
theorem d_L_law_356 : decode code 356 = .ok (.iadd, 1) := by decide +kernel
theorem d_L_law_357 : decode code 357 = .ok (.iaload, 1) := by decide +kernel
theorem d_L_law_358 : decode code 358 = .ok (.invokevirtual 52, 3) := by decide +kernel
theorem d_L_law_361 : decode code 361 = .ok (.istore 6, 2) := by decide +kernel
theorem d_L_law_363 : decode code 363 = .ok (.aload_n 2, 1) := by decide +kernel
theorem d_L_law_364 : decode code 364 = .ok (.invokevirtual 37, 3) := by decide +kernel
theorem d_L_law_367 : decode code 367 = .ok (.iload 5, 2) := by decide +kernel
theorem d_L_law_369 : decode code 369 = .ok (.if_icmp .eq 5, 3) := by decide +kernel
theorem d_L_law_372 : decode code 372 = .ok (.iconst 0, 1) := by decide +kernel
theorem d_L_law_373 : decode code 373 = .ok (.ireturn, 1) := by decide +kernel
theorem d_L_law_374 : decode code 374 = .ok (.iload 5, 2) := by decide +kernel
theorem d_L_law_376 : decode code 376 = .ok (.ifCond .ne 15, 3) := by decide +kernel
theorem d_L_law_379 : decode code 379 = .ok (.aload_n 3, 1) := by decide +kernel
theorem d_L_law_380 : decode code 380 = .ok (.iconst 0, 1) := by decide +kernel
theorem d_L_law_381 : decode code 381 = .ok (.laload, 1) := by decide +kernel
theorem d_L_law_382 : decode code 382 = .ok (.iload 6, 2) := by decide +kernel
theorem d_L_law_384 : decode code 384 = .ok (.i2l, 1) := by decide +kernel
theorem d_L_law_385 : decode code 385 = .ok (.lcmp, 1) := by decide +kernel
theorem d_L_law_386 : decode code 386 = .ok (.ifCond .eq 5, 3) := by decide +kernel
theorem d_L_law_389 : decode code 389 = .ok (.iconst 0, 1) := by decide +kernel
theorem d_L_law_390 : decode code 390 = .ok (.ireturn, 1) := by decide +kernel
theorem d_L_law_391 : decode code 391 = .ok (.goto 542, 3) := by decide +kernel
theorem d_L_law_394 : decode code 394 = .ok (.aload_n 1, 1) := by decide +kernel
theorem d_L_law_395 : decode code 395 = .ok (.aload_n 0, 1) := by decide +kernel
theorem d_L_law_396 : decode code 396 = .ok (.iload 4, 2) := by decide +kernel
theorem d_L_law_398 : decode code 398 = .ok (.iconst 1, 1) := by decide +kernel
theorem d_L_law_399 : decode code 399 = .ok (.iadd, 1) := by decide +kernel
theorem d_L_law_400 : decode code 400 = .ok (.iaload, 1) := by decide +kernel
theorem d_L_law_401 : decode code 401 = .ok (.aload_n 0, 1) := by decide +kernel
theorem d_L_law_402 : decode code 402 = .ok (.iload 4, 2) := by decide +kernel
theorem d_L_law_404 : decode code 404 = .ok (.iconst 2, 1) := by decide +kernel
theorem d_L_law_405 : decode code 405 = .ok (.iadd, 1) := by decide +kernel
theorem d_L_law_406 : decode code 406 = .ok (.iaload, 1) := by decide +kernel
theorem d_L_law_407 : decode code 407 = .ok (.aload_n 0, 1) := by decide +kernel
theorem d_L_law_408 : decode code 408 = .ok (.iload 4, 2) := by decide +kernel
theorem d_L_law_410 : decode code 410 = .ok (.iconst 3, 1) := by decide +kernel
theorem d_L_law_411 : decode code 411 = .ok (.iadd, 1) := by decide +kernel
theorem d_L_law_412 : decode code 412 = .ok (.iaload, 1) := by decide +kernel
theorem d_L_law_413 : decode code 413 = .ok (.i2l, 1) := by decide +kernel
theorem d_L_law_414 : decode code 414 = .ok (.bipush 32, 2) := by decide +kernel
theorem d_L_law_416 : decode code 416 = .ok (.lshl, 1) := by decide +kernel
theorem d_L_law_417 : decode code 417 = .ok (.aload_n 0, 1) := by decide +kernel
theorem d_L_law_418 : decode code 418 = .ok (.iload 4, 2) := by decide +kernel
theorem d_L_law_420 : decode code 420 = .ok (.iconst 4, 1) := by decide +kernel
theorem d_L_law_421 : decode code 421 = .ok (.iadd, 1) := by decide +kernel
theorem d_L_law_422 : decode code 422 = .ok (.iaload, 1) := by decide +kernel
theorem d_L_law_423 : decode code 423 = .ok (.i2l, 1) := by decide +kernel
theorem d_L_law_424 : decode code 424 = .ok (.ldc2_w 29, 3) := by decide +kernel
theorem d_L_law_427 : decode code 427 = .ok (.land, 1) := by decide +kernel
theorem d_L_law_428 : decode code 428 = .ok (.lor, 1) := by decide +kernel
theorem d_L_law_429 : decode code 429 = .ok (.invokevirtual 53, 3) := by decide +kernel
theorem d_L_law_432 : decode code 432 = .ok (.aload_n 2, 1) := by decide +kernel
theorem d_L_law_433 : decode code 433 = .ok (.aload_n 0, 1) := by decide +kernel
theorem d_L_law_434 : decode code 434 = .ok (.iload 4, 2) := by decide +kernel
theorem d_L_law_436 : decode code 436 = .ok (.iconst 1, 1) := by decide +kernel
theorem d_L_law_437 : decode code 437 = .ok (.iadd, 1) := by decide +kernel
theorem d_L_law_438 : decode code 438 = .ok (.iaload, 1) := by decide +kernel
theorem d_L_law_439 : decode code 439 = .ok (.aload_n 0, 1) := by decide +kernel
theorem d_L_law_440 : decode code 440 = .ok (.iload 4, 2) := by decide +kernel
theorem d_L_law_442 : decode code 442 = .ok (.iconst 2, 1) := by decide +kernel
theorem d_L_law_443 : decode code 443 = .ok (.iadd, 1) := by decide +kernel
theorem d_L_law_444 : decode code 444 = .ok (.iaload, 1) := by decide +kernel
theorem d_L_law_445 : decode code 445 = .ok (.aload_n 0, 1) := by decide +kernel
theorem d_L_law_446 : decode code 446 = .ok (.iload 4, 2) := by decide +kernel
theorem d_L_law_448 : decode code 448 = .ok (.iconst 3, 1) := by decide +kernel
theorem d_L_law_449 : decode code 449 = .ok (.iadd, 1) := by decide +kernel
theorem d_L_law_450 : decode code 450 = .ok (.iaload, 1) := by decide +kernel
theorem d_L_law_451 : decode code 451 = .ok (.i2l, 1) := by decide +kernel
theorem d_L_law_452 : decode code 452 = .ok (.bipush 32, 2) := by decide +kernel
theorem d_L_law_454 : decode code 454 = .ok (.lshl, 1) := by decide +kernel
theorem d_L_law_455 : decode code 455 = .ok (.aload_n 0, 1) := by decide +kernel
theorem d_L_law_456 : decode code 456 = .ok (.iload 4, 2) := by decide +kernel
theorem d_L_law_458 : decode code 458 = .ok (.iconst 4, 1) := by decide +kernel
theorem d_L_law_459 : decode code 459 = .ok (.iadd, 1) := by decide +kernel
theorem d_L_law_460 : decode code 460 = .ok (.iaload, 1) := by decide +kernel
theorem d_L_law_461 : decode code 461 = .ok (.i2l, 1) := by decide +kernel
theorem d_L_law_462 : decode code 462 = .ok (.ldc2_w 29, 3) := by decide +kernel
theorem d_L_law_465 : decode code 465 = .ok (.land, 1) := by decide +kernel
theorem d_L_law_466 : decode code 466 = .ok (.lor, 1) := by decide +kernel
theorem d_L_law_467 : decode code 467 = .ok (.invokevirtual 57, 3) := by decide +kernel
theorem d_L_law_470 : decode code 470 = .ok (.if_icmp .eq 463, 3) := by decide +kernel
theorem d_L_law_473 : decode code 473 = .ok (.iconst 0, 1) := by decide +kernel
theorem d_L_law_474 : decode code 474 = .ok (.ireturn, 1) := by decide +kernel
theorem d_L_law_475 : decode code 475 = .ok (.aload_n 1, 1) := by decide +kernel
theorem d_L_law_476 : decode code 476 = .ok (.aload_n 0, 1) := by decide +kernel
theorem d_L_law_477 : decode code 477 = .ok (.iload 4, 2) := by decide +kernel
theorem d_L_law_479 : decode code 479 = .ok (.iconst 1, 1) := by decide +kernel
theorem d_L_law_480 : decode code 480 = .ok (.iadd, 1) := by decide +kernel
theorem d_L_law_481 : decode code 481 = .ok (.iaload, 1) := by decide +kernel
theorem d_L_law_482 : decode code 482 = .ok (.aload_n 0, 1) := by decide +kernel
theorem d_L_law_483 : decode code 483 = .ok (.iload 4, 2) := by decide +kernel
theorem d_L_law_485 : decode code 485 = .ok (.iconst 2, 1) := by decide +kernel
theorem d_L_law_486 : decode code 486 = .ok (.iadd, 1) := by decide +kernel
theorem d_L_law_487 : decode code 487 = .ok (.iaload, 1) := by decide +kernel
theorem d_L_law_488 : decode code 488 = .ok (.invokevirtual 58, 3) := by decide +kernel
theorem d_L_law_491 : decode code 491 = .ok (.aload_n 2, 1) := by decide +kernel
theorem d_L_law_492 : decode code 492 = .ok (.aload_n 0, 1) := by decide +kernel
theorem d_L_law_493 : decode code 493 = .ok (.iload 4, 2) := by decide +kernel
theorem d_L_law_495 : decode code 495 = .ok (.iconst 1, 1) := by decide +kernel
theorem d_L_law_496 : decode code 496 = .ok (.iadd, 1) := by decide +kernel
theorem d_L_law_497 : decode code 497 = .ok (.iaload, 1) := by decide +kernel
theorem d_L_law_498 : decode code 498 = .ok (.aload_n 0, 1) := by decide +kernel
theorem d_L_law_499 : decode code 499 = .ok (.iload 4, 2) := by decide +kernel
theorem d_L_law_501 : decode code 501 = .ok (.iconst 2, 1) := by decide +kernel
theorem d_L_law_502 : decode code 502 = .ok (.iadd, 1) := by decide +kernel
theorem d_L_law_503 : decode code 503 = .ok (.iaload, 1) := by decide +kernel
theorem d_L_law_504 : decode code 504 = .ok (.invokevirtual 61, 3) := by decide +kernel
theorem d_L_law_507 : decode code 507 = .ok (.if_icmp .eq 426, 3) := by decide +kernel
theorem d_L_law_510 : decode code 510 = .ok (.iconst 0, 1) := by decide +kernel
theorem d_L_law_511 : decode code 511 = .ok (.ireturn, 1) := by decide +kernel
theorem d_L_law_512 : decode code 512 = .ok (.aload_n 1, 1) := by decide +kernel
theorem d_L_law_513 : decode code 513 = .ok (.aload_n 0, 1) := by decide +kernel
theorem d_L_law_514 : decode code 514 = .ok (.iload 4, 2) := by decide +kernel
theorem d_L_law_516 : decode code 516 = .ok (.iconst 1, 1) := by decide +kernel
theorem d_L_law_517 : decode code 517 = .ok (.iadd, 1) := by decide +kernel
theorem d_L_law_518 : decode code 518 = .ok (.iaload, 1) := by decide +kernel
theorem d_L_law_519 : decode code 519 = .ok (.aload_n 0, 1) := by decide +kernel
theorem d_L_law_520 : decode code 520 = .ok (.iload 4, 2) := by decide +kernel
theorem d_L_law_522 : decode code 522 = .ok (.iconst 2, 1) := by decide +kernel
theorem d_L_law_523 : decode code 523 = .ok (.iadd, 1) := by decide +kernel
theorem d_L_law_524 : decode code 524 = .ok (.iaload, 1) := by decide +kernel
theorem d_L_law_525 : decode code 525 = .ok (.i2l, 1) := by decide +kernel
theorem d_L_law_526 : decode code 526 = .ok (.bipush 32, 2) := by decide +kernel
theorem d_L_law_528 : decode code 528 = .ok (.lshl, 1) := by decide +kernel
theorem d_L_law_529 : decode code 529 = .ok (.aload_n 0, 1) := by decide +kernel
theorem d_L_law_530 : decode code 530 = .ok (.iload 4, 2) := by decide +kernel
theorem d_L_law_532 : decode code 532 = .ok (.iconst 3, 1) := by decide +kernel
theorem d_L_law_533 : decode code 533 = .ok (.iadd, 1) := by decide +kernel
theorem d_L_law_534 : decode code 534 = .ok (.iaload, 1) := by decide +kernel
theorem d_L_law_535 : decode code 535 = .ok (.i2l, 1) := by decide +kernel
theorem d_L_law_536 : decode code 536 = .ok (.ldc2_w 29, 3) := by decide +kernel
theorem d_L_law_539 : decode code 539 = .ok (.land, 1) := by decide +kernel
theorem d_L_law_540 : decode code 540 = .ok (.lor, 1) := by decide +kernel
theorem d_L_law_541 : decode code 541 = .ok (.aload_n 0, 1) := by decide +kernel
theorem d_L_law_542 : decode code 542 = .ok (.iload 4, 2) := by decide +kernel
theorem d_L_law_544 : decode code 544 = .ok (.iconst 4, 1) := by decide +kernel
theorem d_L_law_545 : decode code 545 = .ok (.iadd, 1) := by decide +kernel
theorem d_L_law_546 : decode code 546 = .ok (.iaload, 1) := by decide +kernel
theorem d_L_law_547 : decode code 547 = .ok (.i2l, 1) := by decide +kernel
theorem d_L_law_548 : decode code 548 = .ok (.bipush 32, 2) := by decide +kernel
theorem d_L_law_550 : decode code 550 = .ok (.lshl, 1) := by decide +kernel
theorem d_L_law_551 : decode code 551 = .ok (.aload_n 0, 1) := by decide +kernel
theorem d_L_law_552 : decode code 552 = .ok (.iload 4, 2) := by decide +kernel
theorem d_L_law_554 : decode code 554 = .ok (.iconst 5, 1) := by decide +kernel
theorem d_L_law_555 : decode code 555 = .ok (.iadd, 1) := by decide +kernel
theorem d_L_law_556 : decode code 556 = .ok (.iaload, 1) := by decide +kernel
theorem d_L_law_557 : decode code 557 = .ok (.i2l, 1) := by decide +kernel
theorem d_L_law_558 : decode code 558 = .ok (.ldc2_w 29, 3) := by decide +kernel
theorem d_L_law_561 : decode code 561 = .ok (.land, 1) := by decide +kernel
theorem d_L_law_562 : decode code 562 = .ok (.lor, 1) := by decide +kernel
theorem d_L_law_563 : decode code 563 = .ok (.aload_n 0, 1) := by decide +kernel
theorem d_L_law_564 : decode code 564 = .ok (.iload 4, 2) := by decide +kernel
theorem d_L_law_566 : decode code 566 = .ok (.bipush 6, 2) := by decide +kernel
theorem d_L_law_568 : decode code 568 = .ok (.iadd, 1) := by decide +kernel
theorem d_L_law_569 : decode code 569 = .ok (.iaload, 1) := by decide +kernel
theorem d_L_law_570 : decode code 570 = .ok (.i2l, 1) := by decide +kernel
theorem d_L_law_571 : decode code 571 = .ok (.bipush 32, 2) := by decide +kernel
theorem d_L_law_573 : decode code 573 = .ok (.lshl, 1) := by decide +kernel
theorem d_L_law_574 : decode code 574 = .ok (.aload_n 0, 1) := by decide +kernel
theorem d_L_law_575 : decode code 575 = .ok (.iload 4, 2) := by decide +kernel
theorem d_L_law_577 : decode code 577 = .ok (.bipush 7, 2) := by decide +kernel
theorem d_L_law_579 : decode code 579 = .ok (.iadd, 1) := by decide +kernel
theorem d_L_law_580 : decode code 580 = .ok (.iaload, 1) := by decide +kernel
theorem d_L_law_581 : decode code 581 = .ok (.i2l, 1) := by decide +kernel
theorem d_L_law_582 : decode code 582 = .ok (.ldc2_w 29, 3) := by decide +kernel
theorem d_L_law_585 : decode code 585 = .ok (.land, 1) := by decide +kernel
theorem d_L_law_586 : decode code 586 = .ok (.lor, 1) := by decide +kernel
theorem d_L_law_587 : decode code 587 = .ok (.invokevirtual 62, 3) := by decide +kernel
theorem d_L_law_590 : decode code 590 = .ok (.aload_n 2, 1) := by decide +kernel
theorem d_L_law_591 : decode code 591 = .ok (.aload_n 0, 1) := by decide +kernel
theorem d_L_law_592 : decode code 592 = .ok (.iload 4, 2) := by decide +kernel
theorem d_L_law_594 : decode code 594 = .ok (.iconst 1, 1) := by decide +kernel
theorem d_L_law_595 : decode code 595 = .ok (.iadd, 1) := by decide +kernel
theorem d_L_law_596 : decode code 596 = .ok (.iaload, 1) := by decide +kernel
theorem d_L_law_597 : decode code 597 = .ok (.aload_n 0, 1) := by decide +kernel
theorem d_L_law_598 : decode code 598 = .ok (.iload 4, 2) := by decide +kernel
theorem d_L_law_600 : decode code 600 = .ok (.iconst 2, 1) := by decide +kernel
theorem d_L_law_601 : decode code 601 = .ok (.iadd, 1) := by decide +kernel
theorem d_L_law_602 : decode code 602 = .ok (.iaload, 1) := by decide +kernel
theorem d_L_law_603 : decode code 603 = .ok (.i2l, 1) := by decide +kernel
theorem d_L_law_604 : decode code 604 = .ok (.bipush 32, 2) := by decide +kernel
theorem d_L_law_606 : decode code 606 = .ok (.lshl, 1) := by decide +kernel
theorem d_L_law_607 : decode code 607 = .ok (.aload_n 0, 1) := by decide +kernel
theorem d_L_law_608 : decode code 608 = .ok (.iload 4, 2) := by decide +kernel
theorem d_L_law_610 : decode code 610 = .ok (.iconst 3, 1) := by decide +kernel
theorem d_L_law_611 : decode code 611 = .ok (.iadd, 1) := by decide +kernel
theorem d_L_law_612 : decode code 612 = .ok (.iaload, 1) := by decide +kernel
theorem d_L_law_613 : decode code 613 = .ok (.i2l, 1) := by decide +kernel
theorem d_L_law_614 : decode code 614 = .ok (.ldc2_w 29, 3) := by decide +kernel
theorem d_L_law_617 : decode code 617 = .ok (.land, 1) := by decide +kernel
theorem d_L_law_618 : decode code 618 = .ok (.lor, 1) := by decide +kernel
theorem d_L_law_619 : decode code 619 = .ok (.aload_n 0, 1) := by decide +kernel
theorem d_L_law_620 : decode code 620 = .ok (.iload 4, 2) := by decide +kernel
theorem d_L_law_622 : decode code 622 = .ok (.iconst 4, 1) := by decide +kernel
theorem d_L_law_623 : decode code 623 = .ok (.iadd, 1) := by decide +kernel
theorem d_L_law_624 : decode code 624 = .ok (.iaload, 1) := by decide +kernel
theorem d_L_law_625 : decode code 625 = .ok (.i2l, 1) := by decide +kernel
theorem d_L_law_626 : decode code 626 = .ok (.bipush 32, 2) := by decide +kernel
theorem d_L_law_628 : decode code 628 = .ok (.lshl, 1) := by decide +kernel
theorem d_L_law_629 : decode code 629 = .ok (.aload_n 0, 1) := by decide +kernel
theorem d_L_law_630 : decode code 630 = .ok (.iload 4, 2) := by decide +kernel
theorem d_L_law_632 : decode code 632 = .ok (.iconst 5, 1) := by decide +kernel
theorem d_L_law_633 : decode code 633 = .ok (.iadd, 1) := by decide +kernel
theorem d_L_law_634 : decode code 634 = .ok (.iaload, 1) := by decide +kernel
theorem d_L_law_635 : decode code 635 = .ok (.i2l, 1) := by decide +kernel
theorem d_L_law_636 : decode code 636 = .ok (.ldc2_w 29, 3) := by decide +kernel
theorem d_L_law_639 : decode code 639 = .ok (.land, 1) := by decide +kernel
theorem d_L_law_640 : decode code 640 = .ok (.lor, 1) := by decide +kernel
theorem d_L_law_641 : decode code 641 = .ok (.aload_n 0, 1) := by decide +kernel
theorem d_L_law_642 : decode code 642 = .ok (.iload 4, 2) := by decide +kernel
theorem d_L_law_644 : decode code 644 = .ok (.bipush 6, 2) := by decide +kernel
theorem d_L_law_646 : decode code 646 = .ok (.iadd, 1) := by decide +kernel
theorem d_L_law_647 : decode code 647 = .ok (.iaload, 1) := by decide +kernel
theorem d_L_law_648 : decode code 648 = .ok (.i2l, 1) := by decide +kernel
theorem d_L_law_649 : decode code 649 = .ok (.bipush 32, 2) := by decide +kernel
theorem d_L_law_651 : decode code 651 = .ok (.lshl, 1) := by decide +kernel
theorem d_L_law_652 : decode code 652 = .ok (.aload_n 0, 1) := by decide +kernel
theorem d_L_law_653 : decode code 653 = .ok (.iload 4, 2) := by decide +kernel
theorem d_L_law_655 : decode code 655 = .ok (.bipush 7, 2) := by decide +kernel
theorem d_L_law_657 : decode code 657 = .ok (.iadd, 1) := by decide +kernel
theorem d_L_law_658 : decode code 658 = .ok (.iaload, 1) := by decide +kernel
theorem d_L_law_659 : decode code 659 = .ok (.i2l, 1) := by decide +kernel
theorem d_L_law_660 : decode code 660 = .ok (.ldc2_w 29, 3) := by decide +kernel
theorem d_L_law_663 : decode code 663 = .ok (.land, 1) := by decide +kernel
theorem d_L_law_664 : decode code 664 = .ok (.lor, 1) := by decide +kernel
theorem d_L_law_665 : decode code 665 = .ok (.invokevirtual 66, 3) := by decide +kernel
theorem d_L_law_668 : decode code 668 = .ok (.if_icmp .eq 265, 3) := by decide +kernel
theorem d_L_law_671 : decode code 671 = .ok (.iconst 0, 1) := by decide +kernel
theorem d_L_law_672 : decode code 672 = .ok (.ireturn, 1) := by decide +kernel
theorem d_L_law_673 : decode code 673 = .ok (.aload_n 1, 1) := by decide +kernel
theorem d_L_law_674 : decode code 674 = .ok (.aload_n 0, 1) := by decide +kernel
theorem d_L_law_675 : decode code 675 = .ok (.iload 4, 2) := by decide +kernel
theorem d_L_law_677 : decode code 677 = .ok (.iconst 1, 1) := by decide +kernel
theorem d_L_law_678 : decode code 678 = .ok (.iadd, 1) := by decide +kernel
theorem d_L_law_679 : decode code 679 = .ok (.iaload, 1) := by decide +kernel
theorem d_L_law_680 : decode code 680 = .ok (.aload_n 0, 1) := by decide +kernel
theorem d_L_law_681 : decode code 681 = .ok (.iload 4, 2) := by decide +kernel
theorem d_L_law_683 : decode code 683 = .ok (.iconst 2, 1) := by decide +kernel
theorem d_L_law_684 : decode code 684 = .ok (.iadd, 1) := by decide +kernel
theorem d_L_law_685 : decode code 685 = .ok (.iaload, 1) := by decide +kernel
theorem d_L_law_686 : decode code 686 = .ok (.invokevirtual 67, 3) := by decide +kernel
theorem d_L_law_689 : decode code 689 = .ok (.aload_n 2, 1) := by decide +kernel
theorem d_L_law_690 : decode code 690 = .ok (.aload_n 0, 1) := by decide +kernel
theorem d_L_law_691 : decode code 691 = .ok (.iload 4, 2) := by decide +kernel
theorem d_L_law_693 : decode code 693 = .ok (.iconst 1, 1) := by decide +kernel
theorem d_L_law_694 : decode code 694 = .ok (.iadd, 1) := by decide +kernel
theorem d_L_law_695 : decode code 695 = .ok (.iaload, 1) := by decide +kernel
theorem d_L_law_696 : decode code 696 = .ok (.aload_n 0, 1) := by decide +kernel
theorem d_L_law_697 : decode code 697 = .ok (.iload 4, 2) := by decide +kernel
theorem d_L_law_699 : decode code 699 = .ok (.iconst 2, 1) := by decide +kernel
theorem d_L_law_700 : decode code 700 = .ok (.iadd, 1) := by decide +kernel
theorem d_L_law_701 : decode code 701 = .ok (.iaload, 1) := by decide +kernel
theorem d_L_law_702 : decode code 702 = .ok (.invokevirtual 70, 3) := by decide +kernel
theorem d_L_law_705 : decode code 705 = .ok (.if_icmp .eq 228, 3) := by decide +kernel
theorem d_L_law_708 : decode code 708 = .ok (.iconst 0, 1) := by decide +kernel
theorem d_L_law_709 : decode code 709 = .ok (.ireturn, 1) := by decide +kernel
theorem d_L_law_710 : decode code 710 = .ok (.aload_n 1, 1) := by decide +kernel
theorem d_L_law_711 : decode code 711 = .ok (.aload_n 0, 1) := by decide +kernel
theorem d_L_law_712 : decode code 712 = .ok (.iload 4, 2) := by decide +kernel
theorem d_L_law_714 : decode code 714 = .ok (.iconst 1, 1) := by decide +kernel
theorem d_L_law_715 : decode code 715 = .ok (.iadd, 1) := by decide +kernel
theorem d_L_law_716 : decode code 716 = .ok (.iaload, 1) := by decide +kernel
theorem d_L_law_717 : decode code 717 = .ok (.i2l, 1) := by decide +kernel
theorem d_L_law_718 : decode code 718 = .ok (.bipush 32, 2) := by decide +kernel
theorem d_L_law_720 : decode code 720 = .ok (.lshl, 1) := by decide +kernel
theorem d_L_law_721 : decode code 721 = .ok (.aload_n 0, 1) := by decide +kernel
theorem d_L_law_722 : decode code 722 = .ok (.iload 4, 2) := by decide +kernel
theorem d_L_law_724 : decode code 724 = .ok (.iconst 2, 1) := by decide +kernel
theorem d_L_law_725 : decode code 725 = .ok (.iadd, 1) := by decide +kernel
theorem d_L_law_726 : decode code 726 = .ok (.iaload, 1) := by decide +kernel
theorem d_L_law_727 : decode code 727 = .ok (.i2l, 1) := by decide +kernel
theorem d_L_law_728 : decode code 728 = .ok (.ldc2_w 29, 3) := by decide +kernel
theorem d_L_law_731 : decode code 731 = .ok (.land, 1) := by decide +kernel
theorem d_L_law_732 : decode code 732 = .ok (.lor, 1) := by decide +kernel
theorem d_L_law_733 : decode code 733 = .ok (.invokevirtual 71, 3) := by decide +kernel
theorem d_L_law_736 : decode code 736 = .ok (.aload_n 2, 1) := by decide +kernel
theorem d_L_law_737 : decode code 737 = .ok (.aload_n 0, 1) := by decide +kernel
theorem d_L_law_738 : decode code 738 = .ok (.iload 4, 2) := by decide +kernel
theorem d_L_law_740 : decode code 740 = .ok (.iconst 1, 1) := by decide +kernel
theorem d_L_law_741 : decode code 741 = .ok (.iadd, 1) := by decide +kernel
theorem d_L_law_742 : decode code 742 = .ok (.iaload, 1) := by decide +kernel
theorem d_L_law_743 : decode code 743 = .ok (.i2l, 1) := by decide +kernel
theorem d_L_law_744 : decode code 744 = .ok (.bipush 32, 2) := by decide +kernel
theorem d_L_law_746 : decode code 746 = .ok (.lshl, 1) := by decide +kernel
theorem d_L_law_747 : decode code 747 = .ok (.aload_n 0, 1) := by decide +kernel
theorem d_L_law_748 : decode code 748 = .ok (.iload 4, 2) := by decide +kernel
theorem d_L_law_750 : decode code 750 = .ok (.iconst 2, 1) := by decide +kernel
theorem d_L_law_751 : decode code 751 = .ok (.iadd, 1) := by decide +kernel
theorem d_L_law_752 : decode code 752 = .ok (.iaload, 1) := by decide +kernel
theorem d_L_law_753 : decode code 753 = .ok (.i2l, 1) := by decide +kernel
theorem d_L_law_754 : decode code 754 = .ok (.ldc2_w 29, 3) := by decide +kernel
theorem d_L_law_757 : decode code 757 = .ok (.land, 1) := by decide +kernel
theorem d_L_law_758 : decode code 758 = .ok (.lor, 1) := by decide +kernel
theorem d_L_law_759 : decode code 759 = .ok (.invokevirtual 75, 3) := by decide +kernel
theorem d_L_law_762 : decode code 762 = .ok (.if_icmp .eq 171, 3) := by decide +kernel
theorem d_L_law_765 : decode code 765 = .ok (.iconst 0, 1) := by decide +kernel
theorem d_L_law_766 : decode code 766 = .ok (.ireturn, 1) := by decide +kernel
theorem d_L_law_767 : decode code 767 = .ok (.aload_n 1, 1) := by decide +kernel
theorem d_L_law_768 : decode code 768 = .ok (.aload_n 0, 1) := by decide +kernel
theorem d_L_law_769 : decode code 769 = .ok (.iload 4, 2) := by decide +kernel
theorem d_L_law_771 : decode code 771 = .ok (.iconst 1, 1) := by decide +kernel
theorem d_L_law_772 : decode code 772 = .ok (.iadd, 1) := by decide +kernel
theorem d_L_law_773 : decode code 773 = .ok (.iaload, 1) := by decide +kernel
theorem d_L_law_774 : decode code 774 = .ok (.aload_n 0, 1) := by decide +kernel
theorem d_L_law_775 : decode code 775 = .ok (.iload 4, 2) := by decide +kernel
theorem d_L_law_777 : decode code 777 = .ok (.iconst 2, 1) := by decide +kernel
theorem d_L_law_778 : decode code 778 = .ok (.iadd, 1) := by decide +kernel
theorem d_L_law_779 : decode code 779 = .ok (.iaload, 1) := by decide +kernel
theorem d_L_law_780 : decode code 780 = .ok (.invokevirtual 76, 3) := by decide +kernel
theorem d_L_law_783 : decode code 783 = .ok (.aload_n 2, 1) := by decide +kernel
theorem d_L_law_784 : decode code 784 = .ok (.aload_n 0, 1) := by decide +kernel
theorem d_L_law_785 : decode code 785 = .ok (.iload 4, 2) := by decide +kernel
theorem d_L_law_787 : decode code 787 = .ok (.iconst 1, 1) := by decide +kernel
theorem d_L_law_788 : decode code 788 = .ok (.iadd, 1) := by decide +kernel
theorem d_L_law_789 : decode code 789 = .ok (.iaload, 1) := by decide +kernel
theorem d_L_law_790 : decode code 790 = .ok (.aload_n 0, 1) := by decide +kernel
theorem d_L_law_791 : decode code 791 = .ok (.iload 4, 2) := by decide +kernel
theorem d_L_law_793 : decode code 793 = .ok (.iconst 2, 1) := by decide +kernel
theorem d_L_law_794 : decode code 794 = .ok (.iadd, 1) := by decide +kernel
theorem d_L_law_795 : decode code 795 = .ok (.iaload, 1) := by decide +kernel
theorem d_L_law_796 : decode code 796 = .ok (.invokevirtual 79, 3) := by decide +kernel
theorem d_L_law_799 : decode code 799 = .ok (.if_icmp .eq 134, 3) := by decide +kernel
theorem d_L_law_802 : decode code 802 = .ok (.iconst 0, 1) := by decide +kernel
theorem d_L_law_803 : decode code 803 = .ok (.ireturn, 1) := by decide +kernel
theorem d_L_law_804 : decode code 804 = .ok (.aload_n 1, 1) := by decide +kernel
theorem d_L_law_805 : decode code 805 = .ok (.aload_n 0, 1) := by decide +kernel
theorem d_L_law_806 : decode code 806 = .ok (.iload 4, 2) := by decide +kernel
theorem d_L_law_808 : decode code 808 = .ok (.iconst 1, 1) := by decide +kernel
theorem d_L_law_809 : decode code 809 = .ok (.iadd, 1) := by decide +kernel
theorem d_L_law_810 : decode code 810 = .ok (.iaload, 1) := by decide +kernel
theorem d_L_law_811 : decode code 811 = .ok (.aload_n 0, 1) := by decide +kernel
theorem d_L_law_812 : decode code 812 = .ok (.iload 4, 2) := by decide +kernel
theorem d_L_law_814 : decode code 814 = .ok (.iconst 2, 1) := by decide +kernel
theorem d_L_law_815 : decode code 815 = .ok (.iadd, 1) := by decide +kernel
theorem d_L_law_816 : decode code 816 = .ok (.iaload, 1) := by decide +kernel
theorem d_L_law_817 : decode code 817 = .ok (.aload_n 0, 1) := by decide +kernel
theorem d_L_law_818 : decode code 818 = .ok (.iload 4, 2) := by decide +kernel
theorem d_L_law_820 : decode code 820 = .ok (.iconst 3, 1) := by decide +kernel
theorem d_L_law_821 : decode code 821 = .ok (.iadd, 1) := by decide +kernel
theorem d_L_law_822 : decode code 822 = .ok (.iaload, 1) := by decide +kernel
theorem d_L_law_823 : decode code 823 = .ok (.aload_n 3, 1) := by decide +kernel
theorem d_L_law_824 : decode code 824 = .ok (.invokestatic 80, 3) := by decide +kernel
theorem d_L_law_827 : decode code 827 = .ok (.istore 5, 2) := by decide +kernel
theorem d_L_law_829 : decode code 829 = .ok (.aload_n 2, 1) := by decide +kernel
theorem d_L_law_830 : decode code 830 = .ok (.aload_n 0, 1) := by decide +kernel
theorem d_L_law_831 : decode code 831 = .ok (.iload 4, 2) := by decide +kernel
theorem d_L_law_833 : decode code 833 = .ok (.iconst 1, 1) := by decide +kernel
theorem d_L_law_834 : decode code 834 = .ok (.iadd, 1) := by decide +kernel
theorem d_L_law_835 : decode code 835 = .ok (.iaload, 1) := by decide +kernel
theorem d_L_law_836 : decode code 836 = .ok (.aload_n 0, 1) := by decide +kernel
theorem d_L_law_837 : decode code 837 = .ok (.iload 4, 2) := by decide +kernel
theorem d_L_law_839 : decode code 839 = .ok (.iconst 2, 1) := by decide +kernel
theorem d_L_law_840 : decode code 840 = .ok (.iadd, 1) := by decide +kernel
theorem d_L_law_841 : decode code 841 = .ok (.iaload, 1) := by decide +kernel
theorem d_L_law_842 : decode code 842 = .ok (.aload_n 0, 1) := by decide +kernel
theorem d_L_law_843 : decode code 843 = .ok (.iload 4, 2) := by decide +kernel
theorem d_L_law_845 : decode code 845 = .ok (.iconst 3, 1) := by decide +kernel
theorem d_L_law_846 : decode code 846 = .ok (.iadd, 1) := by decide +kernel
theorem d_L_law_847 : decode code 847 = .ok (.iaload, 1) := by decide +kernel
theorem d_L_law_848 : decode code 848 = .ok (.invokevirtual 83, 3) := by decide +kernel
theorem d_L_law_851 : decode code 851 = .ok (.istore 6, 2) := by decide +kernel
theorem d_L_law_853 : decode code 853 = .ok (.aload_n 2, 1) := by decide +kernel
theorem d_L_law_854 : decode code 854 = .ok (.invokevirtual 37, 3) := by decide +kernel
theorem d_L_law_857 : decode code 857 = .ok (.iload 5, 2) := by decide +kernel
theorem d_L_law_859 : decode code 859 = .ok (.if_icmp .eq 5, 3) := by decide +kernel
theorem d_L_law_862 : decode code 862 = .ok (.iconst 0, 1) := by decide +kernel
theorem d_L_law_863 : decode code 863 = .ok (.ireturn, 1) := by decide +kernel
theorem d_L_law_864 : decode code 864 = .ok (.iload 5, 2) := by decide +kernel
theorem d_L_law_866 : decode code 866 = .ok (.ifCond .ne 15, 3) := by decide +kernel
theorem d_L_law_869 : decode code 869 = .ok (.aload_n 3, 1) := by decide +kernel
theorem d_L_law_870 : decode code 870 = .ok (.iconst 0, 1) := by decide +kernel
theorem d_L_law_871 : decode code 871 = .ok (.laload, 1) := by decide +kernel
theorem d_L_law_872 : decode code 872 = .ok (.iload 6, 2) := by decide +kernel
theorem d_L_law_874 : decode code 874 = .ok (.i2l, 1) := by decide +kernel
theorem d_L_law_875 : decode code 875 = .ok (.lcmp, 1) := by decide +kernel
theorem d_L_law_876 : decode code 876 = .ok (.ifCond .eq 5, 3) := by decide +kernel
theorem d_L_law_879 : decode code 879 = .ok (.iconst 0, 1) := by decide +kernel
theorem d_L_law_880 : decode code 880 = .ok (.ireturn, 1) := by decide +kernel
theorem d_L_law_881 : decode code 881 = .ok (.goto 52, 3) := by decide +kernel
theorem d_L_law_884 : decode code 884 = .ok (.aload_n 1, 1) := by decide +kernel
theorem d_L_law_885 : decode code 885 = .ok (.aload_n 0, 1) := by decide +kernel
theorem d_L_law_886 : decode code 886 = .ok (.iload 4, 2) := by decide +kernel
theorem d_L_law_888 : decode code 888 = .ok (.iconst 1, 1) := by decide +kernel
theorem d_L_law_889 : decode code 889 = .ok (.iadd, 1) := by decide +kernel
theorem d_L_law_890 : decode code 890 = .ok (.iaload, 1) := by decide +kernel
theorem d_L_law_891 : decode code 891 = .ok (.aload_n 0, 1) := by decide +kernel
theorem d_L_law_892 : decode code 892 = .ok (.iload 4, 2) := by decide +kernel
theorem d_L_law_894 : decode code 894 = .ok (.iconst 2, 1) := by decide +kernel
theorem d_L_law_895 : decode code 895 = .ok (.iadd, 1) := by decide +kernel
theorem d_L_law_896 : decode code 896 = .ok (.iaload, 1) := by decide +kernel
theorem d_L_law_897 : decode code 897 = .ok (.invokevirtual 84, 3) := by decide +kernel
theorem d_L_law_900 : decode code 900 = .ok (.aload_n 2, 1) := by decide +kernel
theorem d_L_law_901 : decode code 901 = .ok (.aload_n 0, 1) := by decide +kernel
theorem d_L_law_902 : decode code 902 = .ok (.iload 4, 2) := by decide +kernel
theorem d_L_law_904 : decode code 904 = .ok (.iconst 1, 1) := by decide +kernel
theorem d_L_law_905 : decode code 905 = .ok (.iadd, 1) := by decide +kernel
theorem d_L_law_906 : decode code 906 = .ok (.iaload, 1) := by decide +kernel
theorem d_L_law_907 : decode code 907 = .ok (.aload_n 0, 1) := by decide +kernel
theorem d_L_law_908 : decode code 908 = .ok (.iload 4, 2) := by decide +kernel
theorem d_L_law_910 : decode code 910 = .ok (.iconst 2, 1) := by decide +kernel
theorem d_L_law_911 : decode code 911 = .ok (.iadd, 1) := by decide +kernel
theorem d_L_law_912 : decode code 912 = .ok (.iaload, 1) := by decide +kernel
theorem d_L_law_913 : decode code 913 = .ok (.invokevirtual 88, 3) := by decide +kernel
theorem d_L_law_916 : decode code 916 = .ok (.lcmp, 1) := by decide +kernel
theorem d_L_law_917 : decode code 917 = .ok (.ifCond .eq 16, 3) := by decide +kernel
theorem d_L_law_920 : decode code 920 = .ok (.iconst 0, 1) := by decide +kernel
theorem d_L_law_921 : decode code 921 = .ok (.ireturn, 1) := by decide +kernel
theorem d_L_law_922 : decode code 922 = .ok (.aload_n 1, 1) := by decide +kernel
theorem d_L_law_923 : decode code 923 = .ok (.invokevirtual 89, 3) := by decide +kernel
theorem d_L_law_926 : decode code 926 = .ok (.aload_n 2, 1) := by decide +kernel
theorem d_L_law_927 : decode code 927 = .ok (.invokevirtual 92, 3) := by decide +kernel
theorem d_L_law_930 : decode code 930 = .ok (.goto 3, 3) := by decide +kernel
theorem d_L_law_933 : decode code 933 = .ok (.iinc 4 8, 3) := by decide +kernel
theorem d_L_law_936 : decode code 936 = .ok (.goto (-913), 3) := by decide +kernel
theorem d_L_law_939 : decode code 939 = .ok (.iconst 1, 1) := by decide +kernel
theorem d_L_law_940 : decode code 940 = .ok (.ireturn, 1) := by decide +kernel
