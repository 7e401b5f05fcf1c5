theorem d_L_law_0 : decode b_L_law 0 = .ok (.new 7, 3) := by decide +kernel
theorem d_L_law_3 : decode b_L_law 3 = .ok (.dup, 1) := by decide +kernel
theorem d_L_law_4 : decode b_L_law 4 = .ok (.invokespecial 9, 3) := by decide +kernel
theorem d_L_law_7 : decode b_L_law 7 = .ok (.astore_n 1, 1) := by decide +kernel
theorem d_L_law_8 : decode b_L_law 8 = .ok (.new 10, 3) := by decide +kernel
theorem d_L_law_11 : decode b_L_law 11 = .ok (.dup, 1) := by decide +kernel
theorem d_L_law_12 : decode b_L_law 12 = .ok (.invokespecial 12, 3) := by decide +kernel
theorem d_L_law_15 : decode b_L_law 15 = .ok (.astore_n 2, 1) := by decide +kernel
theorem d_L_law_16 : decode b_L_law 16 = .ok (.iconst 0, 1) := by decide +kernel
theorem d_L_law_17 : decode b_L_law 17 = .ok (.istore_n 3, 1) := by decide +kernel
theorem d_L_law_18 : decode b_L_law 18 = .ok (.iload_n 3, 1) := by decide +kernel
theorem d_L_law_19 : decode b_L_law 19 = .ok (.aload_n 0, 1) := by decide +kernel
theorem d_L_law_20 : decode b_L_law 20 = .ok (.arraylength, 1) := by decide +kernel
theorem d_L_law_21 : decode b_L_law 21 = .ok (.iconst 5, 1) := by decide +kernel
theorem d_L_law_22 : decode b_L_law 22 = .ok (.isub, 1) := by decide +kernel
theorem d_L_law_23 : decode b_L_law 23 = .ok (.if_icmp .gt 469, 3) := by decide +kernel
theorem d_L_law_26 : decode b_L_law 26 = .ok (.aload_n 0, 1) := by decide +kernel
theorem d_L_law_27 : decode b_L_law 27 = .ok (.iload_n 3, 1) := by decide +kernel
theorem d_L_law_28 : decode b_L_law 28 = .ok (.iaload, 1) := by decide +kernel
theorem d_L_law_29 : decode b_L_law 29 = .ok (.bipush 15, 2) := by decide +kernel
theorem d_L_law_31 : decode b_L_law 31 = .ok (.iand, 1) := by decide +kernel
theorem d_L_law_32 : decode b_L_law 32 = .ok (.tableswitch 454 0 13 #[72, 105, 158, 191, 214, 227, 250, 273, 296, 309, 342, 365, 398, 421], 72) := by decide +kernel
theorem d_L_law_104 : decode b_L_law 104 = .ok (.aload_n 1, 1) := by decide +kernel
theorem d_L_law_105 : decode b_L_law 105 = .ok (.aload_n 0, 1) := by decide +kernel
theorem d_L_law_106 : decode b_L_law 106 = .ok (.iload_n 3, 1) := by decide +kernel
theorem d_L_law_107 : decode b_L_law 107 = .ok (.iconst 1, 1) := by decide +kernel
theorem d_L_law_108 : decode b_L_law 108 = .ok (.iadd, 1) := by decide +kernel
theorem d_L_law_109 : decode b_L_law 109 = .ok (.iaload, 1) := by decide +kernel
theorem d_L_law_110 : decode b_L_law 110 = .ok (.aload_n 0, 1) := by decide +kernel
theorem d_L_law_111 : decode b_L_law 111 = .ok (.iload_n 3, 1) := by decide +kernel
theorem d_L_law_112 : decode b_L_law 112 = .ok (.iconst 2, 1) := by decide +kernel
theorem d_L_law_113 : decode b_L_law 113 = .ok (.iadd, 1) := by decide +kernel
theorem d_L_law_114 : decode b_L_law 114 = .ok (.iaload, 1) := by decide +kernel
theorem d_L_law_115 : decode b_L_law 115 = .ok (.invokevirtual 13, 3) := by decide +kernel
theorem d_L_law_118 : decode b_L_law 118 = .ok (.aload_n 2, 1) := by decide +kernel
theorem d_L_law_119 : decode b_L_law 119 = .ok (.aload_n 0, 1) := by decide +kernel
theorem d_L_law_120 : decode b_L_law 120 = .ok (.iload_n 3, 1) := by decide +kernel
theorem d_L_law_121 : decode b_L_law 121 = .ok (.iconst 1, 1) := by decide +kernel
theorem d_L_law_122 : decode b_L_law 122 = .ok (.iadd, 1) := by decide +kernel
theorem d_L_law_123 : decode b_L_law 123 = .ok (.iaload, 1) := by decide +kernel
theorem d_L_law_124 : decode b_L_law 124 = .ok (.aload_n 0, 1) := by decide +kernel
theorem d_L_law_125 : decode b_L_law 125 = .ok (.iload_n 3, 1) := by decide +kernel
theorem d_L_law_126 : decode b_L_law 126 = .ok (.iconst 2, 1) := by decide +kernel
theorem d_L_law_127 : decode b_L_law 127 = .ok (.iadd, 1) := by decide +kernel
theorem d_L_law_128 : decode b_L_law 128 = .ok (.iaload, 1) := by decide +kernel
theorem d_L_law_129 : decode b_L_law 129 = .ok (.invokevirtual 17, 3) := by decide +kernel
theorem d_L_law_132 : decode b_L_law 132 = .ok (.if_icmp .eq 354, 3) := by decide +kernel
theorem d_L_law_135 : decode b_L_law 135 = .ok (.iconst 0, 1) := by decide +kernel
theorem d_L_law_136 : decode b_L_law 136 = .ok (.ireturn, 1) := by decide +kernel
theorem d_L_law_137 : decode b_L_law 137 = .ok (.aload_n 1, 1) := by decide +kernel
theorem d_L_law_138 : decode b_L_law 138 = .ok (.aload_n 0, 1) := by decide +kernel
theorem d_L_law_139 : decode b_L_law 139 = .ok (.iload_n 3, 1) := by decide +kernel
theorem d_L_law_140 : decode b_L_law 140 = .ok (.iconst 1, 1) := by decide +kernel
theorem d_L_law_141 : decode b_L_law 141 = .ok (.iadd, 1) := by decide +kernel
theorem d_L_law_142 : decode b_L_law 142 = .ok (.iaload, 1) := by decide +kernel
theorem d_L_law_143 : decode b_L_law 143 = .ok (.aload_n 0, 1) := by decide +kernel
theorem d_L_law_144 : decode b_L_law 144 = .ok (.iload_n 3, 1) := by decide +kernel
theorem d_L_law_145 : decode b_L_law 145 = .ok (.iconst 2, 1) := by decide +kernel
theorem d_L_law_146 : decode b_L_law 146 = .ok (.iadd, 1) := by decide +kernel
theorem d_L_law_147 : decode b_L_law 147 = .ok (.iaload, 1) := by decide +kernel
theorem d_L_law_148 : decode b_L_law 148 = .ok (.aload_n 0, 1) := by decide +kernel
theorem d_L_law_149 : decode b_L_law 149 = .ok (.iload_n 3, 1) := by decide +kernel
theorem d_L_law_150 : decode b_L_law 150 = .ok (.iconst 3, 1) := by decide +kernel
theorem d_L_law_151 : decode b_L_law 151 = .ok (.iadd, 1) := by decide +kernel
theorem d_L_law_152 : decode b_L_law 152 = .ok (.iaload, 1) := by decide +kernel
theorem d_L_law_153 : decode b_L_law 153 = .ok (.aload_n 0, 1) := by decide +kernel
theorem d_L_law_154 : decode b_L_law 154 = .ok (.iload_n 3, 1) := by decide +kernel
theorem d_L_law_155 : decode b_L_law 155 = .ok (.iconst 4, 1) := by decide +kernel
theorem d_L_law_156 : decode b_L_law 156 = .ok (.iadd, 1) := by decide +kernel
theorem d_L_law_157 : decode b_L_law 157 = .ok (.iaload, 1) := by decide +kernel
theorem d_L_law_158 : decode b_L_law 158 = .ok (.invokevirtual 18, 3) := by decide +kernel
theorem d_L_law_161 : decode b_L_law 161 = .ok (.aload_n 2, 1) := by decide +kernel
theorem d_L_law_162 : decode b_L_law 162 = .ok (.aload_n 0, 1) := by decide +kernel
theorem d_L_law_163 : decode b_L_law 163 = .ok (.iload_n 3, 1) := by decide +kernel
theorem d_L_law_164 : decode b_L_law 164 = .ok (.iconst 1, 1) := by decide +kernel
theorem d_L_law_165 : decode b_L_law 165 = .ok (.iadd, 1) := by decide +kernel
theorem d_L_law_166 : decode b_L_law 166 = .ok (.iaload, 1) := by decide +kernel
theorem d_L_law_167 : decode b_L_law 167 = .ok (.aload_n 0, 1) := by decide +kernel
theorem d_L_law_168 : decode b_L_law 168 = .ok (.iload_n 3, 1) := by decide +kernel
theorem d_L_law_169 : decode b_L_law 169 = .ok (.iconst 2, 1) := by decide +kernel
theorem d_L_law_170 : decode b_L_law 170 = .ok (.iadd, 1) := by decide +kernel
theorem d_L_law_171 : decode b_L_law 171 = .ok (.iaload, 1) := by decide +kernel
theorem d_L_law_172 : decode b_L_law 172 = .ok (.aload_n 0, 1) := by decide +kernel
theorem d_L_law_173 : decode b_L_law 173 = .ok (.iload_n 3, 1) := by decide +kernel
theorem d_L_law_174 : decode b_L_law 174 = .ok (.iconst 3, 1) := by decide +kernel
theorem d_L_law_175 : decode b_L_law 175 = .ok (.iadd, 1) := by decide +kernel
theorem d_L_law_176 : decode b_L_law 176 = .ok (.iaload, 1) := by decide +kernel
theorem d_L_law_177 : decode b_L_law 177 = .ok (.aload_n 0, 1) := by decide +kernel
theorem d_L_law_178 : decode b_L_law 178 = .ok (.iload_n 3, 1) := by decide +kernel
theorem d_L_law_179 : decode b_L_law 179 = .ok (.iconst 4, 1) := by decide +kernel
theorem d_L_law_180 : decode b_L_law 180 = .ok (.iadd, 1) := by decide +kernel
theorem d_L_law_181 : decode b_L_law 181 = .ok (.iaload, 1) := by decide +kernel
theorem d_L_law_182 : decode b_L_law 182 = .ok (.invokevirtual 22, 3) := by decide +kernel
theorem d_L_law_185 : decode b_L_law 185 = .ok (.if_icmp .eq 301, 3) := by decide +kernel
theorem d_L_law_188 : decode b_L_law 188 = .ok (.iconst 0, 1) := by decide +kernel
theorem d_L_law_189 : decode b_L_law 189 = .ok (.ireturn, 1) := by decide +kernel
theorem d_L_law_190 : decode b_L_law 190 = .ok (.aload_n 1, 1) := by decide +kernel
theorem d_L_law_191 : decode b_L_law 191 = .ok (.aload_n 0, 1) := by decide +kernel
theorem d_L_law_192 : decode b_L_law 192 = .ok (.iload_n 3, 1) := by decide +kernel
theorem d_L_law_193 : decode b_L_law 193 = .ok (.iconst 1, 1) := by decide +kernel
theorem d_L_law_194 : decode b_L_law 194 = .ok (.iadd, 1) := by decide +kernel
theorem d_L_law_195 : decode b_L_law 195 = .ok (.iaload, 1) := by decide +kernel
theorem d_L_law_196 : decode b_L_law 196 = .ok (.aload_n 0, 1) := by decide +kernel
theorem d_L_law_197 : decode b_L_law 197 = .ok (.iload_n 3, 1) := by decide +kernel
theorem d_L_law_198 : decode b_L_law 198 = .ok (.iconst 2, 1) := by decide +kernel
theorem d_L_law_199 : decode b_L_law 199 = .ok (.iadd, 1) := by decide +kernel
theorem d_L_law_200 : decode b_L_law 200 = .ok (.iaload, 1) := by decide +kernel
theorem d_L_law_201 : decode b_L_law 201 = .ok (.invokevirtual 23, 3) := by decide +kernel
theorem d_L_law_204 : decode b_L_law 204 = .ok (.aload_n 2, 1) := by decide +kernel
theorem d_L_law_205 : decode b_L_law 205 = .ok (.aload_n 0, 1) := by decide +kernel
theorem d_L_law_206 : decode b_L_law 206 = .ok (.iload_n 3, 1) := by decide +kernel
theorem d_L_law_207 : decode b_L_law 207 = .ok (.iconst 1, 1) := by decide +kernel
theorem d_L_law_208 : decode b_L_law 208 = .ok (.iadd, 1) := by decide +kernel
theorem d_L_law_209 : decode b_L_law 209 = .ok (.iaload, 1) := by decide +kernel
theorem d_L_law_210 : decode b_L_law 210 = .ok (.aload_n 0, 1) := by decide +kernel
theorem d_L_law_211 : decode b_L_law 211 = .ok (.iload_n 3, 1) := by decide +kernel
theorem d_L_law_212 : decode b_L_law 212 = .ok (.iconst 2, 1) := by decide +kernel
theorem d_L_law_213 : decode b_L_law 213 = .ok (.iadd, 1) := by decide +kernel
theorem d_L_law_214 : decode b_L_law 214 = .ok (.iaload, 1) := by decide +kernel
theorem d_L_law_215 : decode b_L_law 215 = .ok (.invokevirtual 27, 3) := by decide +kernel
theorem d_L_law_218 : decode b_L_law 218 = .ok (.if_icmp .eq 268, 3) := by decide +kernel
theorem d_L_law_221 : decode b_L_law 221 = .ok (.iconst 0, 1) := by decide +kernel
theorem d_L_law_222 : decode b_L_law 222 = .ok (.ireturn, 1) := by decide +kernel
theorem d_L_law_223 : decode b_L_law 223 = .ok (.aload_n 1, 1) := by decide +kernel
theorem d_L_law_224 : decode b_L_law 224 = .ok (.aload_n 0, 1) := by decide +kernel
theorem d_L_law_225 : decode b_L_law 225 = .ok (.iload_n 3, 1) := by decide +kernel
theorem d_L_law_226 : decode b_L_law 226 = .ok (.iconst 1, 1) := by decide +kernel
theorem d_L_law_227 : decode b_L_law 227 = .ok (.iadd, 1) := by decide +kernel
theorem d_L_law_228 : decode b_L_law 228 = .ok (.iaload, 1) := by decide +kernel
theorem d_L_law_229 : decode b_L_law 229 = .ok (.invokevirtual 28, 3) := by decide +kernel
theorem d_L_law_232 : decode b_L_law 232 = .ok (.aload_n 2, 1) := by decide +kernel
theorem d_L_law_233 : decode b_L_law 233 = .ok (.aload_n 0, 1) := by decide +kernel
theorem d_L_law_234 : decode b_L_law 234 = .ok (.iload_n 3, 1) := by decide +kernel
theorem d_L_law_235 : decode b_L_law 235 = .ok (.iconst 1, 1) := by decide +kernel
theorem d_L_law_236 : decode b_L_law 236 = .ok (.iadd, 1) := by decide +kernel
theorem d_L_law_237 : decode b_L_law 237 = .ok (.iaload, 1) := by decide +kernel
theorem d_L_law_238 : decode b_L_law 238 = .ok (.invokevirtual 32, 3) := by decide +kernel
theorem d_L_law_241 : decode b_L_law 241 = .ok (.if_icmp .eq 245, 3) := by decide +kernel
theorem d_L_law_244 : decode b_L_law 244 = .ok (.iconst 0, 1) := by decide +kernel
theorem d_L_law_245 : decode b_L_law 245 = .ok (.ireturn, 1) := by decide +kernel
theorem d_L_law_246 : decode b_L_law 246 = .ok (.aload_n 1, 1) := by decide +kernel
theorem d_L_law_247 : decode b_L_law 247 = .ok (.invokevirtual 33, 3) := by decide +kernel
theorem d_L_law_250 : decode b_L_law 250 = .ok (.aload_n 2, 1) := by decide +kernel
theorem d_L_law_251 : decode b_L_law 251 = .ok (.invokevirtual 37, 3) := by decide +kernel
theorem d_L_law_254 : decode b_L_law 254 = .ok (.if_icmp .eq 232, 3) := by decide +kernel
theorem d_L_law_257 : decode b_L_law 257 = .ok (.iconst 0, 1) := by decide +kernel
theorem d_L_law_258 : decode b_L_law 258 = .ok (.ireturn, 1) := by decide +kernel
theorem d_L_law_259 : decode b_L_law 259 = .ok (.aload_n 1, 1) := by decide +kernel
theorem d_L_law_260 : decode b_L_law 260 = .ok (.aload_n 0, 1) := by decide +kernel
theorem d_L_law_261 : decode b_L_law 261 = .ok (.iload_n 3, 1) := by decide +kernel
theorem d_L_law_262 : decode b_L_law 262 = .ok (.iconst 1, 1) := by decide +kernel
theorem d_L_law_263 : decode b_L_law 263 = .ok (.iadd, 1) := by decide +kernel
theorem d_L_law_264 : decode b_L_law 264 = .ok (.iaload, 1) := by decide +kernel
theorem d_L_law_265 : decode b_L_law 265 = .ok (.invokevirtual 38, 3) := by decide +kernel
theorem d_L_law_268 : decode b_L_law 268 = .ok (.aload_n 2, 1) := by decide +kernel
theorem d_L_law_269 : decode b_L_law 269 = .ok (.aload_n 0, 1) := by decide +kernel
theorem d_L_law_270 : decode b_L_law 270 = .ok (.iload_n 3, 1) := by decide +kernel
theorem d_L_law_271 : decode b_L_law 271 = .ok (.iconst 1, 1) := by decide +kernel
theorem d_L_law_272 : decode b_L_law 272 = .ok (.iadd, 1) := by decide +kernel
theorem d_L_law_273 : decode b_L_law 273 = .ok (.iaload, 1) := by decide +kernel
theorem d_L_law_274 : decode b_L_law 274 = .ok (.invokevirtual 42, 3) := by decide +kernel
theorem d_L_law_277 : decode b_L_law 277 = .ok (.if_icmp .eq 209, 3) := by decide +kernel
theorem d_L_law_280 : decode b_L_law 280 = .ok (.iconst 0, 1) := by decide +kernel
theorem d_L_law_281 : decode b_L_law 281 = .ok (.ireturn, 1) := by decide +kernel
theorem d_L_law_282 : decode b_L_law 282 = .ok (.aload_n 1, 1) := by decide +kernel
theorem d_L_law_283 : decode b_L_law 283 = .ok (.aload_n 0, 1) := by decide +kernel
theorem d_L_law_284 : decode b_L_law 284 = .ok (.iload_n 3, 1) := by decide +kernel
theorem d_L_law_285 : decode b_L_law 285 = .ok (.iconst 1, 1) := by decide +kernel
theorem d_L_law_286 : decode b_L_law 286 = .ok (.iadd, 1) := by decide +kernel
theorem d_L_law_287 : decode b_L_law 287 = .ok (.iaload, 1) := by decide +kernel
theorem d_L_law_288 : decode b_L_law 288 = .ok (.invokevirtual 43, 3) := by decide +kernel
theorem d_L_law_291 : decode b_L_law 291 = .ok (.aload_n 2, 1) := by decide +kernel
theorem d_L_law_292 : decode b_L_law 292 = .ok (.aload_n 0, 1) := by decide +kernel
theorem d_L_law_293 : decode b_L_law 293 = .ok (.iload_n 3, 1) := by decide +kernel
theorem d_L_law_294 : decode b_L_law 294 = .ok (.iconst 1, 1) := by decide +kernel
theorem d_L_law_295 : decode b_L_law 295 = .ok (.iadd, 1) := by decide +kernel
theorem d_L_law_296 : decode b_L_law 296 = .ok (.iaload, 1) := by decide +kernel
theorem d_L_law_297 : decode b_L_law 297 = .ok (.invokevirtual 46, 3) := by decide +kernel
theorem d_L_law_300 : decode b_L_law 300 = .ok (.if_icmp .eq 186, 3) := by decide +kernel
theorem d_L_law_303 : decode b_L_law 303 = .ok (.iconst 0, 1) := by decide +kernel
theorem d_L_law_304 : decode b_L_law 304 = .ok (.ireturn, 1) := by decide +kernel
theorem d_L_law_305 : decode b_L_law 305 = .ok (.aload_n 1, 1) := by decide +kernel
theorem d_L_law_306 : decode b_L_law 306 = .ok (.aload_n 0, 1) := by decide +kernel
theorem d_L_law_307 : decode b_L_law 307 = .ok (.iload_n 3, 1) := by decide +kernel
theorem d_L_law_308 : decode b_L_law 308 = .ok (.iconst 1, 1) := by decide +kernel
theorem d_L_law_309 : decode b_L_law 309 = .ok (.iadd, 1) := by decide +kernel
theorem d_L_law_310 : decode b_L_law 310 = .ok (.iaload, 1) := by decide +kernel
theorem d_L_law_311 : decode b_L_law 311 = .ok (.invokevirtual 47, 3) := by decide +kernel
theorem d_L_law_314 : decode b_L_law 314 = .ok (.aload_n 2, 1) := by decide +kernel
theorem d_L_law_315 : decode b_L_law 315 = .ok (.aload_n 0, 1) := by decide +kernel
theorem d_L_law_316 : decode b_L_law 316 = .ok (.iload_n 3, 1) := by decide +kernel
theorem d_L_law_317 : decode b_L_law 317 = .ok (.iconst 1, 1) := by decide +kernel
theorem d_L_law_318 : decode b_L_law 318 = .ok (.iadd, 1) := by decide +kernel
theorem d_L_law_319 : decode b_L_law 319 = .ok (.iaload, 1) := by decide +kernel
theorem d_L_law_320 : decode b_L_law 320 = .ok (.invokevirtual 50, 3) := by decide +kernel
theorem d_L_law_323 : decode b_L_law 323 = .ok (.if_icmp .eq 163, 3) := by decide +kernel
theorem d_L_law_326 : decode b_L_law 326 = .ok (.iconst 0, 1) := by decide +kernel
theorem d_L_law_327 : decode b_L_law 327 = .ok (.ireturn, 1) := by decide +kernel
theorem d_L_law_328 : decode b_L_law 328 = .ok (.aload_n 1, 1) := by decide +kernel
theorem d_L_law_329 : decode b_L_law 329 = .ok (.invokevirtual 51, 3) := by decide +kernel
theorem d_L_law_332 : decode b_L_law 332 = .ok (.aload_n 2, 1) := by decide +kernel
theorem d_L_law_333 : decode b_L_law 333 = .ok (.invokevirtual 54, 3) := by decide +kernel
theorem d_L_law_336 : decode b_L_law 336 = .ok (.if_icmp .eq 150, 3) := by decide +kernel
theorem d_L_law_339 : decode b_L_law 339 = .ok (.iconst 0, 1) := by decide +kernel
theorem d_L_law_340 : decode b_L_law 340 = .ok (.ireturn, 1) := by decide +kernel
theorem d_L_law_341 : decode b_L_law 341 = .ok (.aload_n 1, 1) := by decide +kernel
theorem d_L_law_342 : decode b_L_law 342 = .ok (.aload_n 0, 1) := by decide +kernel
theorem d_L_law_343 : decode b_L_law 343 = .ok (.iload_n 3, 1) := by decide +kernel
theorem d_L_law_344 : decode b_L_law 344 = .ok (.iconst 1, 1) := by decide +kernel
theorem d_L_law_345 : decode b_L_law 345 = .ok (.iadd, 1) := by decide +kernel
theorem d_L_law_346 : decode b_L_law 346 = .ok (.iaload, 1) := by decide +kernel
theorem d_L_law_347 : decode b_L_law 347 = .ok (.aload_n 0, 1) := by decide +kernel
theorem d_L_law_348 : decode b_L_law 348 = .ok (.iload_n 3, 1) := by decide +kernel
theorem d_L_law_349 : decode b_L_law 349 = .ok (.iconst 2, 1) := by decide +kernel
theorem d_L_law_350 : decode b_L_law 350 = .ok (.iadd, 1) := by decide +kernel
theorem d_L_law_351 : decode b_L_law 351 = .ok (.iaload, 1) := by decide +kernel
theorem d_L_law_352 : decode b_L_law 352 = .ok (.invokevirtual 55, 3) := by decide +kernel
theorem d_L_law_355 : decode b_L_law 355 = .ok (.aload_n 2, 1) := by decide +kernel
theorem d_L_law_356 : decode b_L_law 356 = .ok (.aload_n 0, 1) := by decide +kernel
theorem d_L_law_357 : decode b_L_law 357 = .ok (.iload_n 3, 1) := by decide +kernel
theorem d_L_law_358 : decode b_L_law 358 = .ok (.iconst 1, 1) := by decide +kernel
theorem d_L_law_359 : decode b_L_law 359 = .ok (.iadd, 1) := by decide +kernel
theorem d_L_law_360 : decode b_L_law 360 = .ok (.iaload, 1) := by decide +kernel
theorem d_L_law_361 : decode b_L_law 361 = .ok (.aload_n 0, 1) := by decide +kernel
theorem d_L_law_362 : decode b_L_law 362 = .ok (.iload_n 3, 1) := by decide +kernel
theorem d_L_law_363 : decode b_L_law 363 = .ok (.iconst 2, 1) := by decide +kernel
theorem d_L_law_364 : decode b_L_law 364 = .ok (.iadd, 1) := by decide +kernel
theorem d_L_law_365 : decode b_L_law 365 = .ok (.iaload, 1) := by decide +kernel
theorem d_L_law_366 : decode b_L_law 366 = .ok (.invokevirtual 58, 3) := by decide +kernel
theorem d_L_law_369 : decode b_L_law 369 = .ok (.if_icmp .eq 117, 3) := by decide +kernel
theorem d_L_law_372 : decode b_L_law 372 = .ok (.iconst 0, 1) := by decide +kernel
theorem d_L_law_373 : decode b_L_law 373 = .ok (.ireturn, 1) := by decide +kernel
theorem d_L_law_374 : decode b_L_law 374 = .ok (.aload_n 1, 1) := by decide +kernel
theorem d_L_law_375 : decode b_L_law 375 = .ok (.aload_n 0, 1) := by decide +kernel
theorem d_L_law_376 : decode b_L_law 376 = .ok (.iload_n 3, 1) := by decide +kernel
theorem d_L_law_377 : decode b_L_law 377 = .ok (.iconst 1, 1) := by decide +kernel
theorem d_L_law_378 : decode b_L_law 378 = .ok (.iadd, 1) := by decide +kernel
theorem d_L_law_379 : decode b_L_law 379 = .ok (.iaload, 1) := by decide +kernel
theorem d_L_law_380 : decode b_L_law 380 = .ok (.invokevirtual 59, 3) := by decide +kernel
theorem d_L_law_383 : decode b_L_law 383 = .ok (.aload_n 2, 1) := by decide +kernel
theorem d_L_law_384 : decode b_L_law 384 = .ok (.aload_n 0, 1) := by decide +kernel
theorem d_L_law_385 : decode b_L_law 385 = .ok (.iload_n 3, 1) := by decide +kernel
theorem d_L_law_386 : decode b_L_law 386 = .ok (.iconst 1, 1) := by decide +kernel
theorem d_L_law_387 : decode b_L_law 387 = .ok (.iadd, 1) := by decide +kernel
theorem d_L_law_388 : decode b_L_law 388 = .ok (.iaload, 1) := by decide +kernel
theorem d_L_law_389 : decode b_L_law 389 = .ok (.invokevirtual 62, 3) := by decide +kernel
theorem d_L_law_392 : decode b_L_law 392 = .ok (.if_icmp .eq 94, 3) := by decide +kernel
theorem d_L_law_395 : decode b_L_law 395 = .ok (.iconst 0, 1) := by decide +kernel
theorem d_L_law_396 : decode b_L_law 396 = .ok (.ireturn, 1) := by decide +kernel
theorem d_L_law_397 : decode b_L_law 397 = .ok (.aload_n 1, 1) := by decide +kernel
theorem d_L_law_398 : decode b_L_law 398 = .ok (.aload_n 0, 1) := by decide +kernel
theorem d_L_law_399 : decode b_L_law 399 = .ok (.iload_n 3, 1) := by decide +kernel
theorem d_L_law_400 : decode b_L_law 400 = .ok (.iconst 1, 1) := by decide +kernel
theorem d_L_law_401 : decode b_L_law 401 = .ok (.iadd, 1) := by decide +kernel
theorem d_L_law_402 : decode b_L_law 402 = .ok (.iaload, 1) := by decide +kernel
theorem d_L_law_403 : decode b_L_law 403 = .ok (.aload_n 0, 1) := by decide +kernel
theorem d_L_law_404 : decode b_L_law 404 = .ok (.iload_n 3, 1) := by decide +kernel
theorem d_L_law_405 : decode b_L_law 405 = .ok (.iconst 2, 1) := by decide +kernel
theorem d_L_law_406 : decode b_L_law 406 = .ok (.iadd, 1) := by decide +kernel
theorem d_L_law_407 : decode b_L_law 407 = .ok (.iaload, 1) := by decide +kernel
theorem d_L_law_408 : decode b_L_law 408 = .ok (.invokevirtual 63, 3) := by decide +kernel
theorem d_L_law_411 : decode b_L_law 411 = .ok (.aload_n 2, 1) := by decide +kernel
theorem d_L_law_412 : decode b_L_law 412 = .ok (.aload_n 0, 1) := by decide +kernel
theorem d_L_law_413 : decode b_L_law 413 = .ok (.iload_n 3, 1) := by decide +kernel
theorem d_L_law_414 : decode b_L_law 414 = .ok (.iconst 1, 1) := by decide +kernel
theorem d_L_law_415 : decode b_L_law 415 = .ok (.iadd, 1) := by decide +kernel
theorem d_L_law_416 : decode b_L_law 416 = .ok (.iaload, 1) := by decide +kernel
theorem d_L_law_417 : decode b_L_law 417 = .ok (.aload_n 0, 1) := by decide +kernel
theorem d_L_law_418 : decode b_L_law 418 = .ok (.iload_n 3, 1) := by decide +kernel
theorem d_L_law_419 : decode b_L_law 419 = .ok (.iconst 2, 1) := by decide +kernel
theorem d_L_law_420 : decode b_L_law 420 = .ok (.iadd, 1) := by decide +kernel
theorem d_L_law_421 : decode b_L_law 421 = .ok (.iaload, 1) := by decide +kernel
theorem d_L_law_422 : decode b_L_law 422 = .ok (.invokevirtual 66, 3) := by decide +kernel
theorem d_L_law_425 : decode b_L_law 425 = .ok (.if_icmp .eq 61, 3) := by decide +kernel
theorem d_L_law_428 : decode b_L_law 428 = .ok (.iconst 0, 1) := by decide +kernel
theorem d_L_law_429 : decode b_L_law 429 = .ok (.ireturn, 1) := by decide +kernel
theorem d_L_law_430 : decode b_L_law 430 = .ok (.aload_n 1, 1) := by decide +kernel
theorem d_L_law_431 : decode b_L_law 431 = .ok (.aload_n 0, 1) := by decide +kernel
theorem d_L_law_432 : decode b_L_law 432 = .ok (.iload_n 3, 1) := by decide +kernel
theorem d_L_law_433 : decode b_L_law 433 = .ok (.iconst 1, 1) := by decide +kernel
theorem d_L_law_434 : decode b_L_law 434 = .ok (.iadd, 1) := by decide +kernel
theorem d_L_law_435 : decode b_L_law 435 = .ok (.iaload, 1) := by decide +kernel
theorem d_L_law_436 : decode b_L_law 436 = .ok (.invokevirtual 67, 3) := by decide +kernel
theorem d_L_law_439 : decode b_L_law 439 = .ok (.aload_n 2, 1) := by decide +kernel
theorem d_L_law_440 : decode b_L_law 440 = .ok (.aload_n 0, 1) := by decide +kernel
theorem d_L_law_441 : decode b_L_law 441 = .ok (.iload_n 3, 1) := by decide +kernel
theorem d_L_law_442 : decode b_L_law 442 = .ok (.iconst 1, 1) := by decide +kernel
theorem d_L_law_443 : decode b_L_law 443 = .ok (.iadd, 1) := by decide +kernel
theorem d_L_law_444 : decode b_L_law 444 = .ok (.iaload, 1) := by decide +kernel
theorem d_L_law_445 : decode b_L_law 445 = .ok (.invokevirtual 70, 3) := by decide +kernel
theorem d_L_law_448 : decode b_L_law 448 = .ok (.if_icmp .eq 38, 3) := by decide +kernel
theorem d_L_law_451 : decode b_L_law 451 = .ok (.iconst 0, 1) := by decide +kernel
theorem d_L_law_452 : decode b_L_law 452 = .ok (.ireturn, 1) := by decide +kernel
theorem d_L_law_453 : decode b_L_law 453 = .ok (.aload_n 1, 1) := by decide +kernel
theorem d_L_law_454 : decode b_L_law 454 = .ok (.aload_n 0, 1) := by decide +kernel
theorem d_L_law_455 : decode b_L_law 455 = .ok (.iload_n 3, 1) := by decide +kernel
theorem d_L_law_456 : decode b_L_law 456 = .ok (.iconst 1, 1) := by decide +kernel
theorem d_L_law_457 : decode b_L_law 457 = .ok (.iadd, 1) := by decide +kernel
theorem d_L_law_458 : decode b_L_law 458 = .ok (.iaload, 1) := by decide +kernel
theorem d_L_law_459 : decode b_L_law 459 = .ok (.aload_n 0, 1) := by decide +kernel
theorem d_L_law_460 : decode b_L_law 460 = .ok (.iload_n 3, 1) := by decide +kernel
theorem d_L_law_461 : decode b_L_law 461 = .ok (.iconst 2, 1) := by decide +kernel
theorem d_L_law_462 : decode b_L_law 462 = .ok (.iadd, 1) := by decide +kernel
theorem d_L_law_463 : decode b_L_law 463 = .ok (.iaload, 1) := by decide +kernel
theorem d_L_law_464 : decode b_L_law 464 = .ok (.invokevirtual 71, 3) := by decide +kernel
theorem d_L_law_467 : decode b_L_law 467 = .ok (.aload_n 2, 1) := by decide +kernel
theorem d_L_law_468 : decode b_L_law 468 = .ok (.aload_n 0, 1) := by decide +kernel
theorem d_L_law_469 : decode b_L_law 469 = .ok (.iload_n 3, 1) := by decide +kernel
theorem d_L_law_470 : decode b_L_law 470 = .ok (.iconst 1, 1) := by decide +kernel
theorem d_L_law_471 : decode b_L_law 471 = .ok (.iadd, 1) := by decide +kernel
theorem d_L_law_472 : decode b_L_law 472 = .ok (.iaload, 1) := by decide +kernel
theorem d_L_law_473 : decode b_L_law 473 = .ok (.aload_n 0, 1) := by decide +kernel
theorem d_L_law_474 : decode b_L_law 474 = .ok (.iload_n 3, 1) := by decide +kernel
theorem d_L_law_475 : decode b_L_law 475 = .ok (.iconst 2, 1) := by decide +kernel
theorem d_L_law_476 : decode b_L_law 476 = .ok (.iadd, 1) := by decide +kernel
theorem d_L_law_477 : decode b_L_law 477 = .ok (.iaload, 1) := by decide +kernel
theorem d_L_law_478 : decode b_L_law 478 = .ok (.invokevirtual 74, 3) := by decide +kernel
theorem d_L_law_481 : decode b_L_law 481 = .ok (.if_icmp .eq 5, 3) := by decide +kernel
theorem d_L_law_484 : decode b_L_law 484 = .ok (.iconst 0, 1) := by decide +kernel
theorem d_L_law_485 : decode b_L_law 485 = .ok (.ireturn, 1) := by decide +kernel
theorem d_L_law_486 : decode b_L_law 486 = .ok (.iinc 3 5, 3) := by decide +kernel
theorem d_L_law_489 : decode b_L_law 489 = .ok (.goto (-471), 3) := by decide +kernel
theorem d_L_law_492 : decode b_L_law 492 = .ok (.iconst 1, 1) := by decide +kernel
theorem d_L_law_493 : decode b_L_law 493 = .ok (.ireturn, 1) := by decide +kernel
