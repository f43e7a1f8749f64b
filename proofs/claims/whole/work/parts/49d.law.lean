theorem dL_law_0 : decode cL_law 0 = .ok (.new 7, 3) := by decide +kernel
theorem dL_law_3 : decode cL_law 3 = .ok (.dup, 1) := by decide +kernel
theorem dL_law_4 : decode cL_law 4 = .ok (.invokespecial 9, 3) := by decide +kernel
theorem dL_law_7 : decode cL_law 7 = .ok (.astore_n 1, 1) := by decide +kernel
theorem dL_law_8 : decode cL_law 8 = .ok (.new 10, 3) := by decide +kernel
theorem dL_law_11 : decode cL_law 11 = .ok (.dup, 1) := by decide +kernel
theorem dL_law_12 : decode cL_law 12 = .ok (.invokespecial 12, 3) := by decide +kernel
theorem dL_law_15 : decode cL_law 15 = .ok (.astore_n 2, 1) := by decide +kernel
theorem dL_law_16 : decode cL_law 16 = .ok (.iconst 0, 1) := by decide +kernel
theorem dL_law_17 : decode cL_law 17 = .ok (.istore_n 3, 1) := by decide +kernel
theorem dL_law_18 : decode cL_law 18 = .ok (.iload_n 3, 1) := by decide +kernel
theorem dL_law_19 : decode cL_law 19 = .ok (.aload_n 0, 1) := by decide +kernel
theorem dL_law_20 : decode cL_law 20 = .ok (.arraylength, 1) := by decide +kernel
theorem dL_law_21 : decode cL_law 21 = .ok (.iconst 5, 1) := by decide +kernel
theorem dL_law_22 : decode cL_law 22 = .ok (.isub, 1) := by decide +kernel
theorem dL_law_23 : decode cL_law 23 = .ok (.if_icmp .gt 766, 3) := by decide +kernel
theorem dL_law_26 : decode cL_law 26 = .ok (.aload_n 0, 1) := by decide +kernel
theorem dL_law_27 : decode cL_law 27 = .ok (.iload_n 3, 1) := by decide +kernel
theorem dL_law_28 : decode cL_law 28 = .ok (.iaload, 1) := by decide +kernel
theorem dL_law_29 : decode cL_law 29 = .ok (.bipush 31, 2) := by decide +kernel
theorem dL_law_31 : decode cL_law 31 = .ok (.iand, 1) := by decide +kernel
theorem dL_law_32 : decode cL_law 32 = .ok (.tableswitch 751 0 18 #[92, 141, 194, 227, 260, 313, 366, 419, 472, 505, 546, 569, 602, 625, 638, 661, 674, 707, 730], 92) := by decide +kernel
theorem dL_law_124 : decode cL_law 124 = .ok (.aload_n 1, 1) := by decide +kernel
theorem dL_law_125 : decode cL_law 125 = .ok (.aload_n 0, 1) := by decide +kernel
theorem dL_law_126 : decode cL_law 126 = .ok (.iload_n 3, 1) := by decide +kernel
theorem dL_law_127 : decode cL_law 127 = .ok (.iconst 1, 1) := by decide +kernel
theorem dL_law_128 : decode cL_law 128 = .ok (.iadd, 1) := by decide +kernel
theorem dL_law_129 : decode cL_law 129 = .ok (.iaload, 1) := by decide +kernel
theorem dL_law_130 : decode cL_law 130 = .ok (.aload_n 0, 1) := by decide +kernel
theorem dL_law_131 : decode cL_law 131 = .ok (.iload_n 3, 1) := by decide +kernel
theorem dL_law_132 : decode cL_law 132 = .ok (.iconst 2, 1) := by decide +kernel
theorem dL_law_133 : decode cL_law 133 = .ok (.iadd, 1) := by decide +kernel
theorem dL_law_134 : decode cL_law 134 = .ok (.iaload, 1) := by decide +kernel
theorem dL_law_135 : decode cL_law 135 = .ok (.ifCond .eq 7, 3) := by decide +kernel
theorem dL_law_138 : decode cL_law 138 = .ok (.iconst 1, 1) := by decide +kernel
theorem dL_law_139 : decode cL_law 139 = .ok (.goto 4, 3) := by decide +kernel
theorem dL_law_142 : decode cL_law 142 = .ok (.iconst 0, 1) := by decide +kernel
theorem dL_law_143 : decode cL_law 143 = .ok (.invokevirtual 13, 3) := by decide +kernel
theorem dL_law_146 : decode cL_law 146 = .ok (.aload_n 2, 1) := by decide +kernel
theorem dL_law_147 : decode cL_law 147 = .ok (.aload_n 0, 1) := by decide +kernel
theorem dL_law_148 : decode cL_law 148 = .ok (.iload_n 3, 1) := by decide +kernel
theorem dL_law_149 : decode cL_law 149 = .ok (.iconst 1, 1) := by decide +kernel
theorem dL_law_150 : decode cL_law 150 = .ok (.iadd, 1) := by decide +kernel
theorem dL_law_151 : decode cL_law 151 = .ok (.iaload, 1) := by decide +kernel
theorem dL_law_152 : decode cL_law 152 = .ok (.aload_n 0, 1) := by decide +kernel
theorem dL_law_153 : decode cL_law 153 = .ok (.iload_n 3, 1) := by decide +kernel
theorem dL_law_154 : decode cL_law 154 = .ok (.iconst 2, 1) := by decide +kernel
theorem dL_law_155 : decode cL_law 155 = .ok (.iadd, 1) := by decide +kernel
theorem dL_law_156 : decode cL_law 156 = .ok (.iaload, 1) := by decide +kernel
theorem dL_law_157 : decode cL_law 157 = .ok (.ifCond .eq 7, 3) := by decide +kernel
theorem dL_law_160 : decode cL_law 160 = .ok (.iconst 1, 1) := by decide +kernel
theorem dL_law_161 : decode cL_law 161 = .ok (.goto 4, 3) := by decide +kernel
theorem dL_law_164 : decode cL_law 164 = .ok (.iconst 0, 1) := by decide +kernel
theorem dL_law_165 : decode cL_law 165 = .ok (.invokevirtual 17, 3) := by decide +kernel
theorem dL_law_168 : decode cL_law 168 = .ok (.if_icmp .eq 615, 3) := by decide +kernel
theorem dL_law_171 : decode cL_law 171 = .ok (.iconst 0, 1) := by decide +kernel
theorem dL_law_172 : decode cL_law 172 = .ok (.ireturn, 1) := by decide +kernel
theorem dL_law_173 : decode cL_law 173 = .ok (.aload_n 1, 1) := by decide +kernel
theorem dL_law_174 : decode cL_law 174 = .ok (.aload_n 0, 1) := by decide +kernel
theorem dL_law_175 : decode cL_law 175 = .ok (.iload_n 3, 1) := by decide +kernel
theorem dL_law_176 : decode cL_law 176 = .ok (.iconst 1, 1) := by decide +kernel
theorem dL_law_177 : decode cL_law 177 = .ok (.iadd, 1) := by decide +kernel
theorem dL_law_178 : decode cL_law 178 = .ok (.iaload, 1) := by decide +kernel
theorem dL_law_179 : decode cL_law 179 = .ok (.aload_n 0, 1) := by decide +kernel
theorem dL_law_180 : decode cL_law 180 = .ok (.iload_n 3, 1) := by decide +kernel
theorem dL_law_181 : decode cL_law 181 = .ok (.iconst 2, 1) := by decide +kernel
theorem dL_law_182 : decode cL_law 182 = .ok (.iadd, 1) := by decide +kernel
theorem dL_law_183 : decode cL_law 183 = .ok (.iaload, 1) := by decide +kernel
theorem dL_law_184 : decode cL_law 184 = .ok (.aload_n 0, 1) := by decide +kernel
theorem dL_law_185 : decode cL_law 185 = .ok (.iload_n 3, 1) := by decide +kernel
theorem dL_law_186 : decode cL_law 186 = .ok (.iconst 3, 1) := by decide +kernel
theorem dL_law_187 : decode cL_law 187 = .ok (.iadd, 1) := by decide +kernel
theorem dL_law_188 : decode cL_law 188 = .ok (.iaload, 1) := by decide +kernel
theorem dL_law_189 : decode cL_law 189 = .ok (.aload_n 0, 1) := by decide +kernel
theorem dL_law_190 : decode cL_law 190 = .ok (.iload_n 3, 1) := by decide +kernel
theorem dL_law_191 : decode cL_law 191 = .ok (.iconst 4, 1) := by decide +kernel
theorem dL_law_192 : decode cL_law 192 = .ok (.iadd, 1) := by decide +kernel
theorem dL_law_193 : decode cL_law 193 = .ok (.iaload, 1) := by decide +kernel
theorem dL_law_194 : decode cL_law 194 = .ok (.invokevirtual 18, 3) := by decide +kernel
theorem dL_law_197 : decode cL_law 197 = .ok (.aload_n 2, 1) := by decide +kernel
theorem dL_law_198 : decode cL_law 198 = .ok (.aload_n 0, 1) := by decide +kernel
theorem dL_law_199 : decode cL_law 199 = .ok (.iload_n 3, 1) := by decide +kernel
theorem dL_law_200 : decode cL_law 200 = .ok (.iconst 1, 1) := by decide +kernel
theorem dL_law_201 : decode cL_law 201 = .ok (.iadd, 1) := by decide +kernel
theorem dL_law_202 : decode cL_law 202 = .ok (.iaload, 1) := by decide +kernel
theorem dL_law_203 : decode cL_law 203 = .ok (.aload_n 0, 1) := by decide +kernel
theorem dL_law_204 : decode cL_law 204 = .ok (.iload_n 3, 1) := by decide +kernel
theorem dL_law_205 : decode cL_law 205 = .ok (.iconst 2, 1) := by decide +kernel
theorem dL_law_206 : decode cL_law 206 = .ok (.iadd, 1) := by decide +kernel
theorem dL_law_207 : decode cL_law 207 = .ok (.iaload, 1) := by decide +kernel
theorem dL_law_208 : decode cL_law 208 = .ok (.aload_n 0, 1) := by decide +kernel
theorem dL_law_209 : decode cL_law 209 = .ok (.iload_n 3, 1) := by decide +kernel
theorem dL_law_210 : decode cL_law 210 = .ok (.iconst 3, 1) := by decide +kernel
theorem dL_law_211 : decode cL_law 211 = .ok (.iadd, 1) := by decide +kernel
theorem dL_law_212 : decode cL_law 212 = .ok (.iaload, 1) := by decide +kernel
theorem dL_law_213 : decode cL_law 213 = .ok (.aload_n 0, 1) := by decide +kernel
theorem dL_law_214 : decode cL_law 214 = .ok (.iload_n 3, 1) := by decide +kernel
theorem dL_law_215 : decode cL_law 215 = .ok (.iconst 4, 1) := by decide +kernel
theorem dL_law_216 : decode cL_law 216 = .ok (.iadd, 1) := by decide +kernel
theorem dL_law_217 : decode cL_law 217 = .ok (.iaload, 1) := by decide +kernel
theorem dL_law_218 : decode cL_law 218 = .ok (.invokevirtual 22, 3) := by decide +kernel
theorem dL_law_221 : decode cL_law 221 = .ok (.if_icmp .eq 562, 3) := by decide +kernel
theorem dL_law_224 : decode cL_law 224 = .ok (.iconst 0, 1) := by decide +kernel
theorem dL_law_225 : decode cL_law 225 = .ok (.ireturn, 1) := by decide +kernel
theorem dL_law_226 : decode cL_law 226 = .ok (.aload_n 1, 1) := by decide +kernel
theorem dL_law_227 : decode cL_law 227 = .ok (.aload_n 0, 1) := by decide +kernel
theorem dL_law_228 : decode cL_law 228 = .ok (.iload_n 3, 1) := by decide +kernel
theorem dL_law_229 : decode cL_law 229 = .ok (.iconst 1, 1) := by decide +kernel
theorem dL_law_230 : decode cL_law 230 = .ok (.iadd, 1) := by decide +kernel
theorem dL_law_231 : decode cL_law 231 = .ok (.iaload, 1) := by decide +kernel
theorem dL_law_232 : decode cL_law 232 = .ok (.aload_n 0, 1) := by decide +kernel
theorem dL_law_233 : decode cL_law 233 = .ok (.iload_n 3, 1) := by decide +kernel
theorem dL_law_234 : decode cL_law 234 = .ok (.iconst 2, 1) := by decide +kernel
theorem dL_law_235 : decode cL_law 235 = .ok (.iadd, 1) := by decide +kernel
theorem dL_law_236 : decode cL_law 236 = .ok (.iaload, 1) := by decide +kernel
theorem dL_law_237 : decode cL_law 237 = .ok (.invokevirtual 23, 3) := by decide +kernel
theorem dL_law_240 : decode cL_law 240 = .ok (.aload_n 2, 1) := by decide +kernel
theorem dL_law_241 : decode cL_law 241 = .ok (.aload_n 0, 1) := by decide +kernel
theorem dL_law_242 : decode cL_law 242 = .ok (.iload_n 3, 1) := by decide +kernel
theorem dL_law_243 : decode cL_law 243 = .ok (.iconst 1, 1) := by decide +kernel
theorem dL_law_244 : decode cL_law 244 = .ok (.iadd, 1) := by decide +kernel
theorem dL_law_245 : decode cL_law 245 = .ok (.iaload, 1) := by decide +kernel
theorem dL_law_246 : decode cL_law 246 = .ok (.aload_n 0, 1) := by decide +kernel
theorem dL_law_247 : decode cL_law 247 = .ok (.iload_n 3, 1) := by decide +kernel
theorem dL_law_248 : decode cL_law 248 = .ok (.iconst 2, 1) := by decide +kernel
theorem dL_law_249 : decode cL_law 249 = .ok (.iadd, 1) := by decide +kernel
theorem dL_law_250 : decode cL_law 250 = .ok (.iaload, 1) := by decide +kernel
theorem dL_law_251 : decode cL_law 251 = .ok (.invokevirtual 27, 3) := by decide +kernel
theorem dL_law_254 : decode cL_law 254 = .ok (.if_icmp .eq 529, 3) := by decide +kernel
theorem dL_law_257 : decode cL_law 257 = .ok (.iconst 0, 1) := by decide +kernel
theorem dL_law_258 : decode cL_law 258 = .ok (.ireturn, 1) := by decide +kernel
theorem dL_law_259 : decode cL_law 259 = .ok (.aload_n 1, 1) := by decide +kernel
theorem dL_law_260 : decode cL_law 260 = .ok (.aload_n 0, 1) := by decide +kernel
theorem dL_law_261 : decode cL_law 261 = .ok (.iload_n 3, 1) := by decide +kernel
theorem dL_law_262 : decode cL_law 262 = .ok (.iconst 1, 1) := by decide +kernel
theorem dL_law_263 : decode cL_law 263 = .ok (.iadd, 1) := by decide +kernel
theorem dL_law_264 : decode cL_law 264 = .ok (.iaload, 1) := by decide +kernel
theorem dL_law_265 : decode cL_law 265 = .ok (.aload_n 0, 1) := by decide +kernel
theorem dL_law_266 : decode cL_law 266 = .ok (.iload_n 3, 1) := by decide +kernel
theorem dL_law_267 : decode cL_law 267 = .ok (.iconst 2, 1) := by decide +kernel
theorem dL_law_268 : decode cL_law 268 = .ok (.iadd, 1) := by decide +kernel
theorem dL_law_269 : decode cL_law 269 = .ok (.iaload, 1) := by decide +kernel
theorem dL_law_270 : decode cL_law 270 = .ok (.invokevirtual 28, 3) := by decide +kernel
theorem dL_law_273 : decode cL_law 273 = .ok (.aload_n 2, 1) := by decide +kernel
theorem dL_law_274 : decode cL_law 274 = .ok (.aload_n 0, 1) := by decide +kernel
theorem dL_law_275 : decode cL_law 275 = .ok (.iload_n 3, 1) := by decide +kernel
theorem dL_law_276 : decode cL_law 276 = .ok (.iconst 1, 1) := by decide +kernel
theorem dL_law_277 : decode cL_law 277 = .ok (.iadd, 1) := by decide +kernel
theorem dL_law_278 : decode cL_law 278 = .ok (.iaload, 1) := by decide +kernel
theorem dL_law_279 : decode cL_law 279 = .ok (.aload_n 0, 1) := by decide +kernel
theorem dL_law_280 : decode cL_law 280 = .ok (.iload_n 3, 1) := by decide +kernel
theorem dL_law_281 : decode cL_law 281 = .ok (.iconst 2, 1) := by decide +kernel
theorem dL_law_282 : decode cL_law 282 = .ok (.iadd, 1) := by decide +kernel
theorem dL_law_283 : decode cL_law 283 = .ok (.iaload, 1) := by decide +kernel
theorem dL_law_284 : decode cL_law 284 = .ok (.invokevirtual 31, 3) := by decide +kernel
theorem dL_law_287 : decode cL_law 287 = .ok (.if_icmp .eq 496, 3) := by decide +kernel
theorem dL_law_290 : decode cL_law 290 = .ok (.iconst 0, 1) := by decide +kernel
theorem dL_law_291 : decode cL_law 291 = .ok (.ireturn, 1) := by decide +kernel
theorem dL_law_292 : decode cL_law 292 = .ok (.aload_n 1, 1) := by decide +kernel
theorem dL_law_293 : decode cL_law 293 = .ok (.aload_n 0, 1) := by decide +kernel
theorem dL_law_294 : decode cL_law 294 = .ok (.iload_n 3, 1) := by decide +kernel
theorem dL_law_295 : decode cL_law 295 = .ok (.iconst 1, 1) := by decide +kernel
theorem dL_law_296 : decode cL_law 296 = .ok (.iadd, 1) := by decide +kernel
theorem dL_law_297 : decode cL_law 297 = .ok (.iaload, 1) := by decide +kernel
theorem dL_law_298 : decode cL_law 298 = .ok (.aload_n 0, 1) := by decide +kernel
theorem dL_law_299 : decode cL_law 299 = .ok (.iload_n 3, 1) := by decide +kernel
theorem dL_law_300 : decode cL_law 300 = .ok (.iconst 2, 1) := by decide +kernel
theorem dL_law_301 : decode cL_law 301 = .ok (.iadd, 1) := by decide +kernel
theorem dL_law_302 : decode cL_law 302 = .ok (.iaload, 1) := by decide +kernel
theorem dL_law_303 : decode cL_law 303 = .ok (.aload_n 0, 1) := by decide +kernel
theorem dL_law_304 : decode cL_law 304 = .ok (.iload_n 3, 1) := by decide +kernel
theorem dL_law_305 : decode cL_law 305 = .ok (.iconst 3, 1) := by decide +kernel
theorem dL_law_306 : decode cL_law 306 = .ok (.iadd, 1) := by decide +kernel
theorem dL_law_307 : decode cL_law 307 = .ok (.iaload, 1) := by decide +kernel
theorem dL_law_308 : decode cL_law 308 = .ok (.aload_n 0, 1) := by decide +kernel
theorem dL_law_309 : decode cL_law 309 = .ok (.iload_n 3, 1) := by decide +kernel
theorem dL_law_310 : decode cL_law 310 = .ok (.iconst 4, 1) := by decide +kernel
theorem dL_law_311 : decode cL_law 311 = .ok (.iadd, 1) := by decide +kernel
theorem dL_law_312 : decode cL_law 312 = .ok (.iaload, 1) := by decide +kernel
theorem dL_law_313 : decode cL_law 313 = .ok (.invokevirtual 32, 3) := by decide +kernel
theorem dL_law_316 : decode cL_law 316 = .ok (.aload_n 2, 1) := by decide +kernel
theorem dL_law_317 : decode cL_law 317 = .ok (.aload_n 0, 1) := by decide +kernel
theorem dL_law_318 : decode cL_law 318 = .ok (.iload_n 3, 1) := by decide +kernel
theorem dL_law_319 : decode cL_law 319 = .ok (.iconst 1, 1) := by decide +kernel
theorem dL_law_320 : decode cL_law 320 = .ok (.iadd, 1) := by decide +kernel
theorem dL_law_321 : decode cL_law 321 = .ok (.iaload, 1) := by decide +kernel
theorem dL_law_322 : decode cL_law 322 = .ok (.aload_n 0, 1) := by decide +kernel
theorem dL_law_323 : decode cL_law 323 = .ok (.iload_n 3, 1) := by decide +kernel
theorem dL_law_324 : decode cL_law 324 = .ok (.iconst 2, 1) := by decide +kernel
theorem dL_law_325 : decode cL_law 325 = .ok (.iadd, 1) := by decide +kernel
theorem dL_law_326 : decode cL_law 326 = .ok (.iaload, 1) := by decide +kernel
theorem dL_law_327 : decode cL_law 327 = .ok (.aload_n 0, 1) := by decide +kernel
theorem dL_law_328 : decode cL_law 328 = .ok (.iload_n 3, 1) := by decide +kernel
theorem dL_law_329 : decode cL_law 329 = .ok (.iconst 3, 1) := by decide +kernel
theorem dL_law_330 : decode cL_law 330 = .ok (.iadd, 1) := by decide +kernel
theorem dL_law_331 : decode cL_law 331 = .ok (.iaload, 1) := by decide +kernel
theorem dL_law_332 : decode cL_law 332 = .ok (.aload_n 0, 1) := by decide +kernel
theorem dL_law_333 : decode cL_law 333 = .ok (.iload_n 3, 1) := by decide +kernel
theorem dL_law_334 : decode cL_law 334 = .ok (.iconst 4, 1) := by decide +kernel
theorem dL_law_335 : decode cL_law 335 = .ok (.iadd, 1) := by decide +kernel
theorem dL_law_336 : decode cL_law 336 = .ok (.iaload, 1) := by decide +kernel
theorem dL_law_337 : decode cL_law 337 = .ok (.invokevirtual 35, 3) := by decide +kernel
theorem dL_law_340 : decode cL_law 340 = .ok (.if_icmp .eq 443, 3) := by decide +kernel
theorem dL_law_343 : decode cL_law 343 = .ok (.iconst 0, 1) := by decide +kernel
theorem dL_law_344 : decode cL_law 344 = .ok (.ireturn, 1) := by decide +kernel
theorem dL_law_345 : decode cL_law 345 = .ok (.aload_n 1, 1) := by decide +kernel
theorem dL_law_346 : decode cL_law 346 = .ok (.aload_n 0, 1) := by decide +kernel
theorem dL_law_347 : decode cL_law 347 = .ok (.iload_n 3, 1) := by decide +kernel
theorem dL_law_348 : decode cL_law 348 = .ok (.iconst 1, 1) := by decide +kernel
theorem dL_law_349 : decode cL_law 349 = .ok (.iadd, 1) := by decide +kernel
theorem dL_law_350 : decode cL_law 350 = .ok (.iaload, 1) := by decide +kernel
theorem dL_law_351 : decode cL_law 351 = .ok (.aload_n 0, 1) := by decide +kernel
theorem dL_law_352 : decode cL_law 352 = .ok (.iload_n 3, 1) := by decide +kernel
theorem dL_law_353 : decode cL_law 353 = .ok (.iconst 2, 1) := by decide +kernel
theorem dL_law_354 : decode cL_law 354 = .ok (.iadd, 1) := by decide +kernel
theorem dL_law_355 : decode cL_law 355 = .ok (.iaload, 1) := by decide +kernel
theorem dL_law_356 : decode cL_law 356 = .ok (.aload_n 0, 1) := by decide +kernel
theorem dL_law_357 : decode cL_law 357 = .ok (.iload_n 3, 1) := by decide +kernel
theorem dL_law_358 : decode cL_law 358 = .ok (.iconst 3, 1) := by decide +kernel
theorem dL_law_359 : decode cL_law 359 = .ok (.iadd, 1) := by decide +kernel
theorem dL_law_360 : decode cL_law 360 = .ok (.iaload, 1) := by decide +kernel
theorem dL_law_361 : decode cL_law 361 = .ok (.aload_n 0, 1) := by decide +kernel
theorem dL_law_362 : decode cL_law 362 = .ok (.iload_n 3, 1) := by decide +kernel
theorem dL_law_363 : decode cL_law 363 = .ok (.iconst 4, 1) := by decide +kernel
theorem dL_law_364 : decode cL_law 364 = .ok (.iadd, 1) := by decide +kernel
theorem dL_law_365 : decode cL_law 365 = .ok (.iaload, 1) := by decide +kernel
theorem dL_law_366 : decode cL_law 366 = .ok (.invokevirtual 36, 3) := by decide +kernel
theorem dL_law_369 : decode cL_law 369 = .ok (.aload_n 2, 1) := by decide +kernel
theorem dL_law_370 : decode cL_law 370 = .ok (.aload_n 0, 1) := by decide +kernel
theorem dL_law_371 : decode cL_law 371 = .ok (.iload_n 3, 1) := by decide +kernel
theorem dL_law_372 : decode cL_law 372 = .ok (.iconst 1, 1) := by decide +kernel
theorem dL_law_373 : decode cL_law 373 = .ok (.iadd, 1) := by decide +kernel
theorem dL_law_374 : decode cL_law 374 = .ok (.iaload, 1) := by decide +kernel
theorem dL_law_375 : decode cL_law 375 = .ok (.aload_n 0, 1) := by decide +kernel
theorem dL_law_376 : decode cL_law 376 = .ok (.iload_n 3, 1) := by decide +kernel
theorem dL_law_377 : decode cL_law 377 = .ok (.iconst 2, 1) := by decide +kernel
theorem dL_law_378 : decode cL_law 378 = .ok (.iadd, 1) := by decide +kernel
theorem dL_law_379 : decode cL_law 379 = .ok (.iaload, 1) := by decide +kernel
theorem dL_law_380 : decode cL_law 380 = .ok (.aload_n 0, 1) := by decide +kernel
theorem dL_law_381 : decode cL_law 381 = .ok (.iload_n 3, 1) := by decide +kernel
theorem dL_law_382 : decode cL_law 382 = .ok (.iconst 3, 1) := by decide +kernel
theorem dL_law_383 : decode cL_law 383 = .ok (.iadd, 1) := by decide +kernel
theorem dL_law_384 : decode cL_law 384 = .ok (.iaload, 1) := by decide +kernel
theorem dL_law_385 : decode cL_law 385 = .ok (.aload_n 0, 1) := by decide +kernel
theorem dL_law_386 : decode cL_law 386 = .ok (.iload_n 3, 1) := by decide +kernel
theorem dL_law_387 : decode cL_law 387 = .ok (.iconst 4, 1) := by decide +kernel
theorem dL_law_388 : decode cL_law 388 = .ok (.iadd, 1) := by decide +kernel
theorem dL_law_389 : decode cL_law 389 = .ok (.iaload, 1) := by decide +kernel
theorem dL_law_390 : decode cL_law 390 = .ok (.invokevirtual 39, 3) := by decide +kernel
theorem dL_law_393 : decode cL_law 393 = .ok (.if_icmp .eq 390, 3) := by decide +kernel
theorem dL_law_396 : decode cL_law 396 = .ok (.iconst 0, 1) := by decide +kernel
theorem dL_law_397 : decode cL_law 397 = .ok (.ireturn, 1) := by decide +kernel
theorem dL_law_398 : decode cL_law 398 = .ok (.aload_n 1, 1) := by decide +kernel
theorem dL_law_399 : decode cL_law 399 = .ok (.aload_n 0, 1) := by decide +kernel
theorem dL_law_400 : decode cL_law 400 = .ok (.iload_n 3, 1) := by decide +kernel
theorem dL_law_401 : decode cL_law 401 = .ok (.iconst 1, 1) := by decide +kernel
theorem dL_law_402 : decode cL_law 402 = .ok (.iadd, 1) := by decide +kernel
theorem dL_law_403 : decode cL_law 403 = .ok (.iaload, 1) := by decide +kernel
theorem dL_law_404 : decode cL_law 404 = .ok (.aload_n 0, 1) := by decide +kernel
theorem dL_law_405 : decode cL_law 405 = .ok (.iload_n 3, 1) := by decide +kernel
theorem dL_law_406 : decode cL_law 406 = .ok (.iconst 2, 1) := by decide +kernel
theorem dL_law_407 : decode cL_law 407 = .ok (.iadd, 1) := by decide +kernel
theorem dL_law_408 : decode cL_law 408 = .ok (.iaload, 1) := by decide +kernel
theorem dL_law_409 : decode cL_law 409 = .ok (.aload_n 0, 1) := by decide +kernel
theorem dL_law_410 : decode cL_law 410 = .ok (.iload_n 3, 1) := by decide +kernel
theorem dL_law_411 : decode cL_law 411 = .ok (.iconst 3, 1) := by decide +kernel
theorem dL_law_412 : decode cL_law 412 = .ok (.iadd, 1) := by decide +kernel
theorem dL_law_413 : decode cL_law 413 = .ok (.iaload, 1) := by decide +kernel
theorem dL_law_414 : decode cL_law 414 = .ok (.aload_n 0, 1) := by decide +kernel
theorem dL_law_415 : decode cL_law 415 = .ok (.iload_n 3, 1) := by decide +kernel
theorem dL_law_416 : decode cL_law 416 = .ok (.iconst 4, 1) := by decide +kernel
theorem dL_law_417 : decode cL_law 417 = .ok (.iadd, 1) := by decide +kernel
theorem dL_law_418 : decode cL_law 418 = .ok (.iaload, 1) := by decide +kernel
theorem dL_law_419 : decode cL_law 419 = .ok (.invokevirtual 40, 3) := by decide +kernel
theorem dL_law_422 : decode cL_law 422 = .ok (.aload_n 2, 1) := by decide +kernel
theorem dL_law_423 : decode cL_law 423 = .ok (.aload_n 0, 1) := by decide +kernel
theorem dL_law_424 : decode cL_law 424 = .ok (.iload_n 3, 1) := by decide +kernel
theorem dL_law_425 : decode cL_law 425 = .ok (.iconst 1, 1) := by decide +kernel
theorem dL_law_426 : decode cL_law 426 = .ok (.iadd, 1) := by decide +kernel
theorem dL_law_427 : decode cL_law 427 = .ok (.iaload, 1) := by decide +kernel
theorem dL_law_428 : decode cL_law 428 = .ok (.aload_n 0, 1) := by decide +kernel
theorem dL_law_429 : decode cL_law 429 = .ok (.iload_n 3, 1) := by decide +kernel
theorem dL_law_430 : decode cL_law 430 = .ok (.iconst 2, 1) := by decide +kernel
theorem dL_law_431 : decode cL_law 431 = .ok (.iadd, 1) := by decide +kernel
theorem dL_law_432 : decode cL_law 432 = .ok (.iaload, 1) := by decide +kernel
theorem dL_law_433 : decode cL_law 433 = .ok (.aload_n 0, 1) := by decide +kernel
theorem dL_law_434 : decode cL_law 434 = .ok (.iload_n 3, 1) := by decide +kernel
theorem dL_law_435 : decode cL_law 435 = .ok (.iconst 3, 1) := by decide +kernel
theorem dL_law_436 : decode cL_law 436 = .ok (.iadd, 1) := by decide +kernel
theorem dL_law_437 : decode cL_law 437 = .ok (.iaload, 1) := by decide +kernel
theorem dL_law_438 : decode cL_law 438 = .ok (.aload_n 0, 1) := by decide +kernel
theorem dL_law_439 : decode cL_law 439 = .ok (.iload_n 3, 1) := by decide +kernel
theorem dL_law_440 : decode cL_law 440 = .ok (.iconst 4, 1) := by decide +kernel
theorem dL_law_441 : decode cL_law 441 = .ok (.iadd, 1) := by decide +kernel
theorem dL_law_442 : decode cL_law 442 = .ok (.iaload, 1) := by decide +kernel
theorem dL_law_443 : decode cL_law 443 = .ok (.invokevirtual 43, 3) := by decide +kernel
theorem dL_law_446 : decode cL_law 446 = .ok (.if_icmp .eq 337, 3) := by decide +kernel
theorem dL_law_449 : decode cL_law 449 = .ok (.iconst 0, 1) := by decide +kernel
theorem dL_law_450 : decode cL_law 450 = .ok (.ireturn, 1) := by decide +kernel
theorem dL_law_451 : decode cL_law 451 = .ok (.aload_n 1, 1) := by decide +kernel
theorem dL_law_452 : decode cL_law 452 = .ok (.aload_n 0, 1) := by decide +kernel
theorem dL_law_453 : decode cL_law 453 = .ok (.iload_n 3, 1) := by decide +kernel
theorem dL_law_454 : decode cL_law 454 = .ok (.iconst 1, 1) := by decide +kernel
theorem dL_law_455 : decode cL_law 455 = .ok (.iadd, 1) := by decide +kernel
theorem dL_law_456 : decode cL_law 456 = .ok (.iaload, 1) := by decide +kernel
theorem dL_law_457 : decode cL_law 457 = .ok (.aload_n 0, 1) := by decide +kernel
theorem dL_law_458 : decode cL_law 458 = .ok (.iload_n 3, 1) := by decide +kernel
theorem dL_law_459 : decode cL_law 459 = .ok (.iconst 2, 1) := by decide +kernel
theorem dL_law_460 : decode cL_law 460 = .ok (.iadd, 1) := by decide +kernel
theorem dL_law_461 : decode cL_law 461 = .ok (.iaload, 1) := by decide +kernel
theorem dL_law_462 : decode cL_law 462 = .ok (.aload_n 0, 1) := by decide +kernel
theorem dL_law_463 : decode cL_law 463 = .ok (.iload_n 3, 1) := by decide +kernel
theorem dL_law_464 : decode cL_law 464 = .ok (.iconst 3, 1) := by decide +kernel
theorem dL_law_465 : decode cL_law 465 = .ok (.iadd, 1) := by decide +kernel
theorem dL_law_466 : decode cL_law 466 = .ok (.iaload, 1) := by decide +kernel
theorem dL_law_467 : decode cL_law 467 = .ok (.aload_n 0, 1) := by decide +kernel
theorem dL_law_468 : decode cL_law 468 = .ok (.iload_n 3, 1) := by decide +kernel
theorem dL_law_469 : decode cL_law 469 = .ok (.iconst 4, 1) := by decide +kernel
theorem dL_law_470 : decode cL_law 470 = .ok (.iadd, 1) := by decide +kernel
theorem dL_law_471 : decode cL_law 471 = .ok (.iaload, 1) := by decide +kernel
theorem dL_law_472 : decode cL_law 472 = .ok (.invokevirtual 44, 3) := by decide +kernel
theorem dL_law_475 : decode cL_law 475 = .ok (.aload_n 2, 1) := by decide +kernel
theorem dL_law_476 : decode cL_law 476 = .ok (.aload_n 0, 1) := by decide +kernel
theorem dL_law_477 : decode cL_law 477 = .ok (.iload_n 3, 1) := by decide +kernel
theorem dL_law_478 : decode cL_law 478 = .ok (.iconst 1, 1) := by decide +kernel
theorem dL_law_479 : decode cL_law 479 = .ok (.iadd, 1) := by decide +kernel
theorem dL_law_480 : decode cL_law 480 = .ok (.iaload, 1) := by decide +kernel
theorem dL_law_481 : decode cL_law 481 = .ok (.aload_n 0, 1) := by decide +kernel
theorem dL_law_482 : decode cL_law 482 = .ok (.iload_n 3, 1) := by decide +kernel
theorem dL_law_483 : decode cL_law 483 = .ok (.iconst 2, 1) := by decide +kernel
theorem dL_law_484 : decode cL_law 484 = .ok (.iadd, 1) := by decide +kernel
theorem dL_law_485 : decode cL_law 485 = .ok (.iaload, 1) := by decide +kernel
theorem dL_law_486 : decode cL_law 486 = .ok (.aload_n 0, 1) := by decide +kernel
theorem dL_law_487 : decode cL_law 487 = .ok (.iload_n 3, 1) := by decide +kernel
theorem dL_law_488 : decode cL_law 488 = .ok (.iconst 3, 1) := by decide +kernel
theorem dL_law_489 : decode cL_law 489 = .ok (.iadd, 1) := by decide +kernel
theorem dL_law_490 : decode cL_law 490 = .ok (.iaload, 1) := by decide +kernel
theorem dL_law_491 : decode cL_law 491 = .ok (.aload_n 0, 1) := by decide +kernel
theorem dL_law_492 : decode cL_law 492 = .ok (.iload_n 3, 1) := by decide +kernel
theorem dL_law_493 : decode cL_law 493 = .ok (.iconst 4, 1) := by decide +kernel
theorem dL_law_494 : decode cL_law 494 = .ok (.iadd, 1) := by decide +kernel
theorem dL_law_495 : decode cL_law 495 = .ok (.iaload, 1) := by decide +kernel
theorem dL_law_496 : decode cL_law 496 = .ok (.invokevirtual 47, 3) := by decide +kernel
theorem dL_law_499 : decode cL_law 499 = .ok (.if_icmp .eq 284, 3) := by decide +kernel
theorem dL_law_502 : decode cL_law 502 = .ok (.iconst 0, 1) := by decide +kernel
theorem dL_law_503 : decode cL_law 503 = .ok (.ireturn, 1) := by decide +kernel
theorem dL_law_504 : decode cL_law 504 = .ok (.aload_n 1, 1) := by decide +kernel
theorem dL_law_505 : decode cL_law 505 = .ok (.aload_n 0, 1) := by decide +kernel
theorem dL_law_506 : decode cL_law 506 = .ok (.iload_n 3, 1) := by decide +kernel
theorem dL_law_507 : decode cL_law 507 = .ok (.iconst 1, 1) := by decide +kernel
theorem dL_law_508 : decode cL_law 508 = .ok (.iadd, 1) := by decide +kernel
theorem dL_law_509 : decode cL_law 509 = .ok (.iaload, 1) := by decide +kernel
theorem dL_law_510 : decode cL_law 510 = .ok (.aload_n 0, 1) := by decide +kernel
theorem dL_law_511 : decode cL_law 511 = .ok (.iload_n 3, 1) := by decide +kernel
theorem dL_law_512 : decode cL_law 512 = .ok (.iconst 2, 1) := by decide +kernel
theorem dL_law_513 : decode cL_law 513 = .ok (.iadd, 1) := by decide +kernel
theorem dL_law_514 : decode cL_law 514 = .ok (.iaload, 1) := by decide +kernel
theorem dL_law_515 : decode cL_law 515 = .ok (.invokevirtual 48, 3) := by decide +kernel
theorem dL_law_518 : decode cL_law 518 = .ok (.aload_n 2, 1) := by decide +kernel
theorem dL_law_519 : decode cL_law 519 = .ok (.aload_n 0, 1) := by decide +kernel
theorem dL_law_520 : decode cL_law 520 = .ok (.iload_n 3, 1) := by decide +kernel
theorem dL_law_521 : decode cL_law 521 = .ok (.iconst 1, 1) := by decide +kernel
theorem dL_law_522 : decode cL_law 522 = .ok (.iadd, 1) := by decide +kernel
theorem dL_law_523 : decode cL_law 523 = .ok (.iaload, 1) := by decide +kernel
theorem dL_law_524 : decode cL_law 524 = .ok (.aload_n 0, 1) := by decide +kernel
theorem dL_law_525 : decode cL_law 525 = .ok (.iload_n 3, 1) := by decide +kernel
theorem dL_law_526 : decode cL_law 526 = .ok (.iconst 2, 1) := by decide +kernel
theorem dL_law_527 : decode cL_law 527 = .ok (.iadd, 1) := by decide +kernel
theorem dL_law_528 : decode cL_law 528 = .ok (.iaload, 1) := by decide +kernel
theorem dL_law_529 : decode cL_law 529 = .ok (.invokevirtual 51, 3) := by decide +kernel
theorem dL_law_532 : decode cL_law 532 = .ok (.if_icmp .eq 251, 3) := by decide +kernel
theorem dL_law_535 : decode cL_law 535 = .ok (.iconst 0, 1) := by decide +kernel
theorem dL_law_536 : decode cL_law 536 = .ok (.ireturn, 1) := by decide +kernel
theorem dL_law_537 : decode cL_law 537 = .ok (.aload_n 1, 1) := by decide +kernel
theorem dL_law_538 : decode cL_law 538 = .ok (.aload_n 0, 1) := by decide +kernel
theorem dL_law_539 : decode cL_law 539 = .ok (.iload_n 3, 1) := by decide +kernel
theorem dL_law_540 : decode cL_law 540 = .ok (.iconst 1, 1) := by decide +kernel
theorem dL_law_541 : decode cL_law 541 = .ok (.iadd, 1) := by decide +kernel
theorem dL_law_542 : decode cL_law 542 = .ok (.iaload, 1) := by decide +kernel
theorem dL_law_543 : decode cL_law 543 = .ok (.aload_n 0, 1) := by decide +kernel
theorem dL_law_544 : decode cL_law 544 = .ok (.iload_n 3, 1) := by decide +kernel
theorem dL_law_545 : decode cL_law 545 = .ok (.iconst 2, 1) := by decide +kernel
theorem dL_law_546 : decode cL_law 546 = .ok (.iadd, 1) := by decide +kernel
theorem dL_law_547 : decode cL_law 547 = .ok (.iaload, 1) := by decide +kernel
theorem dL_law_548 : decode cL_law 548 = .ok (.aload_n 0, 1) := by decide +kernel
theorem dL_law_549 : decode cL_law 549 = .ok (.iload_n 3, 1) := by decide +kernel
theorem dL_law_550 : decode cL_law 550 = .ok (.iconst 3, 1) := by decide +kernel
theorem dL_law_551 : decode cL_law 551 = .ok (.iadd, 1) := by decide +kernel
theorem dL_law_552 : decode cL_law 552 = .ok (.iaload, 1) := by decide +kernel
theorem dL_law_553 : decode cL_law 553 = .ok (.invokevirtual 52, 3) := by decide +kernel
theorem dL_law_556 : decode cL_law 556 = .ok (.aload_n 2, 1) := by decide +kernel
theorem dL_law_557 : decode cL_law 557 = .ok (.aload_n 0, 1) := by decide +kernel
theorem dL_law_558 : decode cL_law 558 = .ok (.iload_n 3, 1) := by decide +kernel
theorem dL_law_559 : decode cL_law 559 = .ok (.iconst 1, 1) := by decide +kernel
theorem dL_law_560 : decode cL_law 560 = .ok (.iadd, 1) := by decide +kernel
theorem dL_law_561 : decode cL_law 561 = .ok (.iaload, 1) := by decide +kernel
theorem dL_law_562 : decode cL_law 562 = .ok (.aload_n 0, 1) := by decide +kernel
theorem dL_law_563 : decode cL_law 563 = .ok (.iload_n 3, 1) := by decide +kernel
theorem dL_law_564 : decode cL_law 564 = .ok (.iconst 2, 1) := by decide +kernel
theorem dL_law_565 : decode cL_law 565 = .ok (.iadd, 1) := by decide +kernel
theorem dL_law_566 : decode cL_law 566 = .ok (.iaload, 1) := by decide +kernel
theorem dL_law_567 : decode cL_law 567 = .ok (.aload_n 0, 1) := by decide +kernel
theorem dL_law_568 : decode cL_law 568 = .ok (.iload_n 3, 1) := by decide +kernel
theorem dL_law_569 : decode cL_law 569 = .ok (.iconst 3, 1) := by decide +kernel
theorem dL_law_570 : decode cL_law 570 = .ok (.iadd, 1) := by decide +kernel
theorem dL_law_571 : decode cL_law 571 = .ok (.iaload, 1) := by decide +kernel
theorem dL_law_572 : decode cL_law 572 = .ok (.invokevirtual 56, 3) := by decide +kernel
theorem dL_law_575 : decode cL_law 575 = .ok (.goto 208, 3) := by decide +kernel
theorem dL_law_578 : decode cL_law 578 = .ok (.aload_n 1, 1) := by decide +kernel
theorem dL_law_579 : decode cL_law 579 = .ok (.aload_n 0, 1) := by decide +kernel
theorem dL_law_580 : decode cL_law 580 = .ok (.iload_n 3, 1) := by decide +kernel
theorem dL_law_581 : decode cL_law 581 = .ok (.iconst 1, 1) := by decide +kernel
theorem dL_law_582 : decode cL_law 582 = .ok (.iadd, 1) := by decide +kernel
theorem dL_law_583 : decode cL_law 583 = .ok (.iaload, 1) := by decide +kernel
theorem dL_law_584 : decode cL_law 584 = .ok (.invokevirtual 57, 3) := by decide +kernel
theorem dL_law_587 : decode cL_law 587 = .ok (.aload_n 2, 1) := by decide +kernel
theorem dL_law_588 : decode cL_law 588 = .ok (.aload_n 0, 1) := by decide +kernel
theorem dL_law_589 : decode cL_law 589 = .ok (.iload_n 3, 1) := by decide +kernel
theorem dL_law_590 : decode cL_law 590 = .ok (.iconst 1, 1) := by decide +kernel
theorem dL_law_591 : decode cL_law 591 = .ok (.iadd, 1) := by decide +kernel
theorem dL_law_592 : decode cL_law 592 = .ok (.iaload, 1) := by decide +kernel
theorem dL_law_593 : decode cL_law 593 = .ok (.invokevirtual 61, 3) := by decide +kernel
theorem dL_law_596 : decode cL_law 596 = .ok (.if_icmp .eq 187, 3) := by decide +kernel
theorem dL_law_599 : decode cL_law 599 = .ok (.iconst 0, 1) := by decide +kernel
theorem dL_law_600 : decode cL_law 600 = .ok (.ireturn, 1) := by decide +kernel
theorem dL_law_601 : decode cL_law 601 = .ok (.aload_n 1, 1) := by decide +kernel
theorem dL_law_602 : decode cL_law 602 = .ok (.aload_n 0, 1) := by decide +kernel
theorem dL_law_603 : decode cL_law 603 = .ok (.iload_n 3, 1) := by decide +kernel
theorem dL_law_604 : decode cL_law 604 = .ok (.iconst 1, 1) := by decide +kernel
theorem dL_law_605 : decode cL_law 605 = .ok (.iadd, 1) := by decide +kernel
theorem dL_law_606 : decode cL_law 606 = .ok (.iaload, 1) := by decide +kernel
theorem dL_law_607 : decode cL_law 607 = .ok (.aload_n 0, 1) := by decide +kernel
theorem dL_law_608 : decode cL_law 608 = .ok (.iload_n 3, 1) := by decide +kernel
theorem dL_law_609 : decode cL_law 609 = .ok (.iconst 2, 1) := by decide +kernel
theorem dL_law_610 : decode cL_law 610 = .ok (.iadd, 1) := by decide +kernel
theorem dL_law_611 : decode cL_law 611 = .ok (.iaload, 1) := by decide +kernel
theorem dL_law_612 : decode cL_law 612 = .ok (.invokevirtual 62, 3) := by decide +kernel
theorem dL_law_615 : decode cL_law 615 = .ok (.aload_n 2, 1) := by decide +kernel
theorem dL_law_616 : decode cL_law 616 = .ok (.aload_n 0, 1) := by decide +kernel
theorem dL_law_617 : decode cL_law 617 = .ok (.iload_n 3, 1) := by decide +kernel
theorem dL_law_618 : decode cL_law 618 = .ok (.iconst 1, 1) := by decide +kernel
theorem dL_law_619 : decode cL_law 619 = .ok (.iadd, 1) := by decide +kernel
theorem dL_law_620 : decode cL_law 620 = .ok (.iaload, 1) := by decide +kernel
theorem dL_law_621 : decode cL_law 621 = .ok (.aload_n 0, 1) := by decide +kernel
theorem dL_law_622 : decode cL_law 622 = .ok (.iload_n 3, 1) := by decide +kernel
theorem dL_law_623 : decode cL_law 623 = .ok (.iconst 2, 1) := by decide +kernel
theorem dL_law_624 : decode cL_law 624 = .ok (.iadd, 1) := by decide +kernel
theorem dL_law_625 : decode cL_law 625 = .ok (.iaload, 1) := by decide +kernel
theorem dL_law_626 : decode cL_law 626 = .ok (.invokevirtual 66, 3) := by decide +kernel
theorem dL_law_629 : decode cL_law 629 = .ok (.if_icmp .eq 154, 3) := by decide +kernel
theorem dL_law_632 : decode cL_law 632 = .ok (.iconst 0, 1) := by decide +kernel
theorem dL_law_633 : decode cL_law 633 = .ok (.ireturn, 1) := by decide +kernel
theorem dL_law_634 : decode cL_law 634 = .ok (.aload_n 1, 1) := by decide +kernel
theorem dL_law_635 : decode cL_law 635 = .ok (.aload_n 0, 1) := by decide +kernel
theorem dL_law_636 : decode cL_law 636 = .ok (.iload_n 3, 1) := by decide +kernel
theorem dL_law_637 : decode cL_law 637 = .ok (.iconst 1, 1) := by decide +kernel
theorem dL_law_638 : decode cL_law 638 = .ok (.iadd, 1) := by decide +kernel
theorem dL_law_639 : decode cL_law 639 = .ok (.iaload, 1) := by decide +kernel
theorem dL_law_640 : decode cL_law 640 = .ok (.invokevirtual 67, 3) := by decide +kernel
theorem dL_law_643 : decode cL_law 643 = .ok (.aload_n 2, 1) := by decide +kernel
theorem dL_law_644 : decode cL_law 644 = .ok (.aload_n 0, 1) := by decide +kernel
theorem dL_law_645 : decode cL_law 645 = .ok (.iload_n 3, 1) := by decide +kernel
theorem dL_law_646 : decode cL_law 646 = .ok (.iconst 1, 1) := by decide +kernel
theorem dL_law_647 : decode cL_law 647 = .ok (.iadd, 1) := by decide +kernel
theorem dL_law_648 : decode cL_law 648 = .ok (.iaload, 1) := by decide +kernel
theorem dL_law_649 : decode cL_law 649 = .ok (.invokevirtual 70, 3) := by decide +kernel
theorem dL_law_652 : decode cL_law 652 = .ok (.if_icmp .eq 131, 3) := by decide +kernel
theorem dL_law_655 : decode cL_law 655 = .ok (.iconst 0, 1) := by decide +kernel
theorem dL_law_656 : decode cL_law 656 = .ok (.ireturn, 1) := by decide +kernel
theorem dL_law_657 : decode cL_law 657 = .ok (.aload_n 1, 1) := by decide +kernel
theorem dL_law_658 : decode cL_law 658 = .ok (.invokevirtual 71, 3) := by decide +kernel
theorem dL_law_661 : decode cL_law 661 = .ok (.aload_n 2, 1) := by decide +kernel
theorem dL_law_662 : decode cL_law 662 = .ok (.invokevirtual 75, 3) := by decide +kernel
theorem dL_law_665 : decode cL_law 665 = .ok (.if_icmp .eq 118, 3) := by decide +kernel
theorem dL_law_668 : decode cL_law 668 = .ok (.iconst 0, 1) := by decide +kernel
theorem dL_law_669 : decode cL_law 669 = .ok (.ireturn, 1) := by decide +kernel
theorem dL_law_670 : decode cL_law 670 = .ok (.aload_n 1, 1) := by decide +kernel
theorem dL_law_671 : decode cL_law 671 = .ok (.aload_n 0, 1) := by decide +kernel
theorem dL_law_672 : decode cL_law 672 = .ok (.iload_n 3, 1) := by decide +kernel
theorem dL_law_673 : decode cL_law 673 = .ok (.iconst 1, 1) := by decide +kernel
theorem dL_law_674 : decode cL_law 674 = .ok (.iadd, 1) := by decide +kernel
theorem dL_law_675 : decode cL_law 675 = .ok (.iaload, 1) := by decide +kernel
theorem dL_law_676 : decode cL_law 676 = .ok (.invokevirtual 76, 3) := by decide +kernel
theorem dL_law_679 : decode cL_law 679 = .ok (.aload_n 2, 1) := by decide +kernel
theorem dL_law_680 : decode cL_law 680 = .ok (.aload_n 0, 1) := by decide +kernel
theorem dL_law_681 : decode cL_law 681 = .ok (.iload_n 3, 1) := by decide +kernel
theorem dL_law_682 : decode cL_law 682 = .ok (.iconst 1, 1) := by decide +kernel
theorem dL_law_683 : decode cL_law 683 = .ok (.iadd, 1) := by decide +kernel
theorem dL_law_684 : decode cL_law 684 = .ok (.iaload, 1) := by decide +kernel
theorem dL_law_685 : decode cL_law 685 = .ok (.invokevirtual 79, 3) := by decide +kernel
theorem dL_law_688 : decode cL_law 688 = .ok (.if_icmp .eq 95, 3) := by decide +kernel
theorem dL_law_691 : decode cL_law 691 = .ok (.iconst 0, 1) := by decide +kernel
theorem dL_law_692 : decode cL_law 692 = .ok (.ireturn, 1) := by decide +kernel
theorem dL_law_693 : decode cL_law 693 = .ok (.aload_n 1, 1) := by decide +kernel
theorem dL_law_694 : decode cL_law 694 = .ok (.invokevirtual 80, 3) := by decide +kernel
theorem dL_law_697 : decode cL_law 697 = .ok (.aload_n 2, 1) := by decide +kernel
theorem dL_law_698 : decode cL_law 698 = .ok (.invokevirtual 83, 3) := by decide +kernel
theorem dL_law_701 : decode cL_law 701 = .ok (.if_icmp .eq 82, 3) := by decide +kernel
theorem dL_law_704 : decode cL_law 704 = .ok (.iconst 0, 1) := by decide +kernel
theorem dL_law_705 : decode cL_law 705 = .ok (.ireturn, 1) := by decide +kernel
theorem dL_law_706 : decode cL_law 706 = .ok (.aload_n 1, 1) := by decide +kernel
theorem dL_law_707 : decode cL_law 707 = .ok (.aload_n 0, 1) := by decide +kernel
theorem dL_law_708 : decode cL_law 708 = .ok (.iload_n 3, 1) := by decide +kernel
theorem dL_law_709 : decode cL_law 709 = .ok (.iconst 1, 1) := by decide +kernel
theorem dL_law_710 : decode cL_law 710 = .ok (.iadd, 1) := by decide +kernel
theorem dL_law_711 : decode cL_law 711 = .ok (.iaload, 1) := by decide +kernel
theorem dL_law_712 : decode cL_law 712 = .ok (.aload_n 0, 1) := by decide +kernel
theorem dL_law_713 : decode cL_law 713 = .ok (.iload_n 3, 1) := by decide +kernel
theorem dL_law_714 : decode cL_law 714 = .ok (.iconst 2, 1) := by decide +kernel
theorem dL_law_715 : decode cL_law 715 = .ok (.iadd, 1) := by decide +kernel
theorem dL_law_716 : decode cL_law 716 = .ok (.iaload, 1) := by decide +kernel
theorem dL_law_717 : decode cL_law 717 = .ok (.invokevirtual 84, 3) := by decide +kernel
theorem dL_law_720 : decode cL_law 720 = .ok (.aload_n 2, 1) := by decide +kernel
theorem dL_law_721 : decode cL_law 721 = .ok (.aload_n 0, 1) := by decide +kernel
theorem dL_law_722 : decode cL_law 722 = .ok (.iload_n 3, 1) := by decide +kernel
theorem dL_law_723 : decode cL_law 723 = .ok (.iconst 1, 1) := by decide +kernel
theorem dL_law_724 : decode cL_law 724 = .ok (.iadd, 1) := by decide +kernel
theorem dL_law_725 : decode cL_law 725 = .ok (.iaload, 1) := by decide +kernel
theorem dL_law_726 : decode cL_law 726 = .ok (.aload_n 0, 1) := by decide +kernel
theorem dL_law_727 : decode cL_law 727 = .ok (.iload_n 3, 1) := by decide +kernel
theorem dL_law_728 : decode cL_law 728 = .ok (.iconst 2, 1) := by decide +kernel
theorem dL_law_729 : decode cL_law 729 = .ok (.iadd, 1) := by decide +kernel
theorem dL_law_730 : decode cL_law 730 = .ok (.iaload, 1) := by decide +kernel
theorem dL_law_731 : decode cL_law 731 = .ok (.invokevirtual 87, 3) := by decide +kernel
theorem dL_law_734 : decode cL_law 734 = .ok (.if_icmp .eq 49, 3) := by decide +kernel
theorem dL_law_737 : decode cL_law 737 = .ok (.iconst 0, 1) := by decide +kernel
theorem dL_law_738 : decode cL_law 738 = .ok (.ireturn, 1) := by decide +kernel
theorem dL_law_739 : decode cL_law 739 = .ok (.aload_n 1, 1) := by decide +kernel
theorem dL_law_740 : decode cL_law 740 = .ok (.aload_n 0, 1) := by decide +kernel
theorem dL_law_741 : decode cL_law 741 = .ok (.iload_n 3, 1) := by decide +kernel
theorem dL_law_742 : decode cL_law 742 = .ok (.iconst 1, 1) := by decide +kernel
theorem dL_law_743 : decode cL_law 743 = .ok (.iadd, 1) := by decide +kernel
theorem dL_law_744 : decode cL_law 744 = .ok (.iaload, 1) := by decide +kernel
theorem dL_law_745 : decode cL_law 745 = .ok (.invokevirtual 88, 3) := by decide +kernel
theorem dL_law_748 : decode cL_law 748 = .ok (.aload_n 2, 1) := by decide +kernel
theorem dL_law_749 : decode cL_law 749 = .ok (.aload_n 0, 1) := by decide +kernel
theorem dL_law_750 : decode cL_law 750 = .ok (.iload_n 3, 1) := by decide +kernel
theorem dL_law_751 : decode cL_law 751 = .ok (.iconst 1, 1) := by decide +kernel
theorem dL_law_752 : decode cL_law 752 = .ok (.iadd, 1) := by decide +kernel
theorem dL_law_753 : decode cL_law 753 = .ok (.iaload, 1) := by decide +kernel
theorem dL_law_754 : decode cL_law 754 = .ok (.invokevirtual 91, 3) := by decide +kernel
theorem dL_law_757 : decode cL_law 757 = .ok (.if_icmp .eq 26, 3) := by decide +kernel
theorem dL_law_760 : decode cL_law 760 = .ok (.iconst 0, 1) := by decide +kernel
theorem dL_law_761 : decode cL_law 761 = .ok (.ireturn, 1) := by decide +kernel
theorem dL_law_762 : decode cL_law 762 = .ok (.aload_n 1, 1) := by decide +kernel
theorem dL_law_763 : decode cL_law 763 = .ok (.aload_n 0, 1) := by decide +kernel
theorem dL_law_764 : decode cL_law 764 = .ok (.iload_n 3, 1) := by decide +kernel
theorem dL_law_765 : decode cL_law 765 = .ok (.iconst 1, 1) := by decide +kernel
theorem dL_law_766 : decode cL_law 766 = .ok (.iadd, 1) := by decide +kernel
theorem dL_law_767 : decode cL_law 767 = .ok (.iaload, 1) := by decide +kernel
theorem dL_law_768 : decode cL_law 768 = .ok (.invokevirtual 92, 3) := by decide +kernel
theorem dL_law_771 : decode cL_law 771 = .ok (.aload_n 2, 1) := by decide +kernel
theorem dL_law_772 : decode cL_law 772 = .ok (.aload_n 0, 1) := by decide +kernel
theorem dL_law_773 : decode cL_law 773 = .ok (.iload_n 3, 1) := by decide +kernel
theorem dL_law_774 : decode cL_law 774 = .ok (.iconst 1, 1) := by decide +kernel
theorem dL_law_775 : decode cL_law 775 = .ok (.iadd, 1) := by decide +kernel
theorem dL_law_776 : decode cL_law 776 = .ok (.iaload, 1) := by decide +kernel
theorem dL_law_777 : decode cL_law 777 = .ok (.invokevirtual 96, 3) := by decide +kernel
theorem dL_law_780 : decode cL_law 780 = .ok (.goto 3, 3) := by decide +kernel
theorem dL_law_783 : decode cL_law 783 = .ok (.iinc 3 5, 3) := by decide +kernel
theorem dL_law_786 : decode cL_law 786 = .ok (.goto (-768), 3) := by decide +kernel
theorem dL_law_789 : decode cL_law 789 = .ok (.iconst 1, 1) := by decide +kernel
theorem dL_law_790 : decode cL_law 790 = .ok (.ireturn, 1) := by decide +kernel
theorem ki_X5 : Cond.initialized RX5 ∈ ltb := List.mem_filter.mpr ⟨List.mem_append_right _ (List.mem_of_getElem? (i := 1) (by decide +kernel)), by decide +kernel⟩
theorem kc_X5_body : Cond.code yX5_body cX5_body 3 (some .int) ∈ ltb := List.mem_filter.mpr ⟨List.mem_append_right _ (List.mem_of_getElem? (i := 199) (by decide +kernel)), by decide +kernel⟩
theorem km_X5_body : Mi yX5_body RX5 2 cX5_body 3 (some .int) := ⟨by decide +kernel, kc_X5_body, ki_X5, by decide⟩
theorem kv_X5_body : Cond.instanceMethod yX5_body ∈ ltb := List.mem_filter.mpr ⟨List.mem_append_right _ (List.mem_of_getElem? (i := 197) (by decide +kernel)), by decide +kernel⟩
theorem ke_X5_body : Cond.selects RX5 yX5_body yX5_body ∈ ltb := List.mem_filter.mpr ⟨List.mem_append_right _ (List.mem_of_getElem? (i := 198) (by decide +kernel)), by decide +kernel⟩
theorem ki_X6 : Cond.initialized RX6 ∈ ltb := List.mem_filter.mpr ⟨List.mem_append_right _ (List.mem_of_getElem? (i := 6) (by decide +kernel)), by decide +kernel⟩
theorem kc_X6_body : Cond.code yX6_body cX6_body 3 (some .int) ∈ ltb := List.mem_filter.mpr ⟨List.mem_append_right _ (List.mem_of_getElem? (i := 554) (by decide +kernel)), by decide +kernel⟩
theorem km_X6_body : Mi yX6_body RX6 2 cX6_body 3 (some .int) := ⟨by decide +kernel, kc_X6_body, ki_X6, by decide⟩
theorem kv_X6_body : Cond.instanceMethod yX6_body ∈ ltb := List.mem_filter.mpr ⟨List.mem_append_right _ (List.mem_of_getElem? (i := 552) (by decide +kernel)), by decide +kernel⟩
theorem ke_X6_body : Cond.selects RX6 yX6_body yX6_body ∈ ltb := List.mem_filter.mpr ⟨List.mem_append_right _ (List.mem_of_getElem? (i := 553) (by decide +kernel)), by decide +kernel⟩
theorem kl_13 : Cond.methodLink RL 13 yX5_body ∈ ltb := List.mem_filter.mpr ⟨List.mem_append_right _ (List.mem_of_getElem? (i := 196) (by decide +kernel)), by decide +kernel⟩
theorem kl_17 : Cond.methodLink RL 17 yX6_body ∈ ltb := List.mem_filter.mpr ⟨List.mem_append_right _ (List.mem_of_getElem? (i := 551) (by decide +kernel)), by decide +kernel⟩
theorem kc_X5_place : Cond.code yX5_place cX5_place 5 (some .boolean) ∈ ltb := List.mem_filter.mpr ⟨List.mem_append_right _ (List.mem_of_getElem? (i := 207) (by decide +kernel)), by decide +kernel⟩
theorem km_X5_place : Mi yX5_place RX5 4 cX5_place 5 (some .boolean) := ⟨by decide +kernel, kc_X5_place, ki_X5, by decide⟩
theorem kv_X5_place : Cond.instanceMethod yX5_place ∈ ltb := List.mem_filter.mpr ⟨List.mem_append_right _ (List.mem_of_getElem? (i := 205) (by decide +kernel)), by decide +kernel⟩
theorem ke_X5_place : Cond.selects RX5 yX5_place yX5_place ∈ ltb := List.mem_filter.mpr ⟨List.mem_append_right _ (List.mem_of_getElem? (i := 206) (by decide +kernel)), by decide +kernel⟩
theorem kc_X6_place : Cond.code yX6_place cX6_place 5 (some .boolean) ∈ ltb := List.mem_filter.mpr ⟨List.mem_append_right _ (List.mem_of_getElem? (i := 558) (by decide +kernel)), by decide +kernel⟩
theorem km_X6_place : Mi yX6_place RX6 4 cX6_place 5 (some .boolean) := ⟨by decide +kernel, kc_X6_place, ki_X6, by decide⟩
theorem kv_X6_place : Cond.instanceMethod yX6_place ∈ ltb := List.mem_filter.mpr ⟨List.mem_append_right _ (List.mem_of_getElem? (i := 556) (by decide +kernel)), by decide +kernel⟩
theorem ke_X6_place : Cond.selects RX6 yX6_place yX6_place ∈ ltb := List.mem_filter.mpr ⟨List.mem_append_right _ (List.mem_of_getElem? (i := 557) (by decide +kernel)), by decide +kernel⟩
theorem kl_18 : Cond.methodLink RL 18 yX5_place ∈ ltb := List.mem_filter.mpr ⟨List.mem_append_right _ (List.mem_of_getElem? (i := 204) (by decide +kernel)), by decide +kernel⟩
theorem kl_22 : Cond.methodLink RL 22 yX6_place ∈ ltb := List.mem_filter.mpr ⟨List.mem_append_right _ (List.mem_of_getElem? (i := 555) (by decide +kernel)), by decide +kernel⟩
theorem kc_X5_tilt : Cond.code yX5_tilt cX5_tilt 3 (some .boolean) ∈ ltb := List.mem_filter.mpr ⟨List.mem_append_right _ (List.mem_of_getElem? (i := 226) (by decide +kernel)), by decide +kernel⟩
theorem km_X5_tilt : Mi yX5_tilt RX5 2 cX5_tilt 3 (some .boolean) := ⟨by decide +kernel, kc_X5_tilt, ki_X5, by decide⟩
theorem kv_X5_tilt : Cond.instanceMethod yX5_tilt ∈ ltb := List.mem_filter.mpr ⟨List.mem_append_right _ (List.mem_of_getElem? (i := 224) (by decide +kernel)), by decide +kernel⟩
theorem ke_X5_tilt : Cond.selects RX5 yX5_tilt yX5_tilt ∈ ltb := List.mem_filter.mpr ⟨List.mem_append_right _ (List.mem_of_getElem? (i := 225) (by decide +kernel)), by decide +kernel⟩
theorem kc_X6_tilt : Cond.code yX6_tilt cX6_tilt 3 (some .boolean) ∈ ltb := List.mem_filter.mpr ⟨List.mem_append_right _ (List.mem_of_getElem? (i := 574) (by decide +kernel)), by decide +kernel⟩
theorem km_X6_tilt : Mi yX6_tilt RX6 2 cX6_tilt 3 (some .boolean) := ⟨by decide +kernel, kc_X6_tilt, ki_X6, by decide⟩
theorem kv_X6_tilt : Cond.instanceMethod yX6_tilt ∈ ltb := List.mem_filter.mpr ⟨List.mem_append_right _ (List.mem_of_getElem? (i := 572) (by decide +kernel)), by decide +kernel⟩
theorem ke_X6_tilt : Cond.selects RX6 yX6_tilt yX6_tilt ∈ ltb := List.mem_filter.mpr ⟨List.mem_append_right _ (List.mem_of_getElem? (i := 573) (by decide +kernel)), by decide +kernel⟩
theorem kl_23 : Cond.methodLink RL 23 yX5_tilt ∈ ltb := List.mem_filter.mpr ⟨List.mem_append_right _ (List.mem_of_getElem? (i := 223) (by decide +kernel)), by decide +kernel⟩
theorem kl_27 : Cond.methodLink RL 27 yX6_tilt ∈ ltb := List.mem_filter.mpr ⟨List.mem_append_right _ (List.mem_of_getElem? (i := 571) (by decide +kernel)), by decide +kernel⟩
theorem kc_X5_mass : Cond.code yX5_mass cX5_mass 3 (some .boolean) ∈ ltb := List.mem_filter.mpr ⟨List.mem_append_right _ (List.mem_of_getElem? (i := 231) (by decide +kernel)), by decide +kernel⟩
theorem km_X5_mass : Mi yX5_mass RX5 2 cX5_mass 3 (some .boolean) := ⟨by decide +kernel, kc_X5_mass, ki_X5, by decide⟩
theorem kv_X5_mass : Cond.instanceMethod yX5_mass ∈ ltb := List.mem_filter.mpr ⟨List.mem_append_right _ (List.mem_of_getElem? (i := 229) (by decide +kernel)), by decide +kernel⟩
theorem ke_X5_mass : Cond.selects RX5 yX5_mass yX5_mass ∈ ltb := List.mem_filter.mpr ⟨List.mem_append_right _ (List.mem_of_getElem? (i := 230) (by decide +kernel)), by decide +kernel⟩
theorem kc_X6_mass : Cond.code yX6_mass cX6_mass 3 (some .boolean) ∈ ltb := List.mem_filter.mpr ⟨List.mem_append_right _ (List.mem_of_getElem? (i := 582) (by decide +kernel)), by decide +kernel⟩
theorem km_X6_mass : Mi yX6_mass RX6 2 cX6_mass 3 (some .boolean) := ⟨by decide +kernel, kc_X6_mass, ki_X6, by decide⟩
theorem kv_X6_mass : Cond.instanceMethod yX6_mass ∈ ltb := List.mem_filter.mpr ⟨List.mem_append_right _ (List.mem_of_getElem? (i := 580) (by decide +kernel)), by decide +kernel⟩
theorem ke_X6_mass : Cond.selects RX6 yX6_mass yX6_mass ∈ ltb := List.mem_filter.mpr ⟨List.mem_append_right _ (List.mem_of_getElem? (i := 581) (by decide +kernel)), by decide +kernel⟩
theorem kl_28 : Cond.methodLink RL 28 yX5_mass ∈ ltb := List.mem_filter.mpr ⟨List.mem_append_right _ (List.mem_of_getElem? (i := 228) (by decide +kernel)), by decide +kernel⟩
theorem kl_31 : Cond.methodLink RL 31 yX6_mass ∈ ltb := List.mem_filter.mpr ⟨List.mem_append_right _ (List.mem_of_getElem? (i := 579) (by decide +kernel)), by decide +kernel⟩
theorem kc_X5_centre : Cond.code yX5_centre cX5_centre 5 (some .boolean) ∈ ltb := List.mem_filter.mpr ⟨List.mem_append_right _ (List.mem_of_getElem? (i := 235) (by decide +kernel)), by decide +kernel⟩
theorem km_X5_centre : Mi yX5_centre RX5 4 cX5_centre 5 (some .boolean) := ⟨by decide +kernel, kc_X5_centre, ki_X5, by decide⟩
theorem kv_X5_centre : Cond.instanceMethod yX5_centre ∈ ltb := List.mem_filter.mpr ⟨List.mem_append_right _ (List.mem_of_getElem? (i := 233) (by decide +kernel)), by decide +kernel⟩
theorem ke_X5_centre : Cond.selects RX5 yX5_centre yX5_centre ∈ ltb := List.mem_filter.mpr ⟨List.mem_append_right _ (List.mem_of_getElem? (i := 234) (by decide +kernel)), by decide +kernel⟩
theorem kc_X6_centre : Cond.code yX6_centre cX6_centre 5 (some .boolean) ∈ ltb := List.mem_filter.mpr ⟨List.mem_append_right _ (List.mem_of_getElem? (i := 586) (by decide +kernel)), by decide +kernel⟩
theorem km_X6_centre : Mi yX6_centre RX6 4 cX6_centre 5 (some .boolean) := ⟨by decide +kernel, kc_X6_centre, ki_X6, by decide⟩
theorem kv_X6_centre : Cond.instanceMethod yX6_centre ∈ ltb := List.mem_filter.mpr ⟨List.mem_append_right _ (List.mem_of_getElem? (i := 584) (by decide +kernel)), by decide +kernel⟩
theorem ke_X6_centre : Cond.selects RX6 yX6_centre yX6_centre ∈ ltb := List.mem_filter.mpr ⟨List.mem_append_right _ (List.mem_of_getElem? (i := 585) (by decide +kernel)), by decide +kernel⟩
theorem kl_32 : Cond.methodLink RL 32 yX5_centre ∈ ltb := List.mem_filter.mpr ⟨List.mem_append_right _ (List.mem_of_getElem? (i := 232) (by decide +kernel)), by decide +kernel⟩
theorem kl_35 : Cond.methodLink RL 35 yX6_centre ∈ ltb := List.mem_filter.mpr ⟨List.mem_append_right _ (List.mem_of_getElem? (i := 583) (by decide +kernel)), by decide +kernel⟩
theorem kc_X5_inertia : Cond.code yX5_inertia cX5_inertia 5 (some .boolean) ∈ ltb := List.mem_filter.mpr ⟨List.mem_append_right _ (List.mem_of_getElem? (i := 239) (by decide +kernel)), by decide +kernel⟩
theorem km_X5_inertia : Mi yX5_inertia RX5 4 cX5_inertia 5 (some .boolean) := ⟨by decide +kernel, kc_X5_inertia, ki_X5, by decide⟩
theorem kv_X5_inertia : Cond.instanceMethod yX5_inertia ∈ ltb := List.mem_filter.mpr ⟨List.mem_append_right _ (List.mem_of_getElem? (i := 237) (by decide +kernel)), by decide +kernel⟩
theorem ke_X5_inertia : Cond.selects RX5 yX5_inertia yX5_inertia ∈ ltb := List.mem_filter.mpr ⟨List.mem_append_right _ (List.mem_of_getElem? (i := 238) (by decide +kernel)), by decide +kernel⟩
theorem kc_X6_inertia : Cond.code yX6_inertia cX6_inertia 5 (some .boolean) ∈ ltb := List.mem_filter.mpr ⟨List.mem_append_right _ (List.mem_of_getElem? (i := 590) (by decide +kernel)), by decide +kernel⟩
theorem km_X6_inertia : Mi yX6_inertia RX6 4 cX6_inertia 5 (some .boolean) := ⟨by decide +kernel, kc_X6_inertia, ki_X6, by decide⟩
theorem kv_X6_inertia : Cond.instanceMethod yX6_inertia ∈ ltb := List.mem_filter.mpr ⟨List.mem_append_right _ (List.mem_of_getElem? (i := 588) (by decide +kernel)), by decide +kernel⟩
theorem ke_X6_inertia : Cond.selects RX6 yX6_inertia yX6_inertia ∈ ltb := List.mem_filter.mpr ⟨List.mem_append_right _ (List.mem_of_getElem? (i := 589) (by decide +kernel)), by decide +kernel⟩
theorem kl_36 : Cond.methodLink RL 36 yX5_inertia ∈ ltb := List.mem_filter.mpr ⟨List.mem_append_right _ (List.mem_of_getElem? (i := 236) (by decide +kernel)), by decide +kernel⟩
theorem kl_39 : Cond.methodLink RL 39 yX6_inertia ∈ ltb := List.mem_filter.mpr ⟨List.mem_append_right _ (List.mem_of_getElem? (i := 587) (by decide +kernel)), by decide +kernel⟩
theorem kc_X5_products : Cond.code yX5_products cX5_products 5 (some .boolean) ∈ ltb := List.mem_filter.mpr ⟨List.mem_append_right _ (List.mem_of_getElem? (i := 248) (by decide +kernel)), by decide +kernel⟩
theorem km_X5_products : Mi yX5_products RX5 4 cX5_products 5 (some .boolean) := ⟨by decide +kernel, kc_X5_products, ki_X5, by decide⟩
theorem kv_X5_products : Cond.instanceMethod yX5_products ∈ ltb := List.mem_filter.mpr ⟨List.mem_append_right _ (List.mem_of_getElem? (i := 246) (by decide +kernel)), by decide +kernel⟩
theorem ke_X5_products : Cond.selects RX5 yX5_products yX5_products ∈ ltb := List.mem_filter.mpr ⟨List.mem_append_right _ (List.mem_of_getElem? (i := 247) (by decide +kernel)), by decide +kernel⟩
theorem kc_X6_products : Cond.code yX6_products cX6_products 5 (some .boolean) ∈ ltb := List.mem_filter.mpr ⟨List.mem_append_right _ (List.mem_of_getElem? (i := 594) (by decide +kernel)), by decide +kernel⟩
theorem km_X6_products : Mi yX6_products RX6 4 cX6_products 5 (some .boolean) := ⟨by decide +kernel, kc_X6_products, ki_X6, by decide⟩
theorem kv_X6_products : Cond.instanceMethod yX6_products ∈ ltb := List.mem_filter.mpr ⟨List.mem_append_right _ (List.mem_of_getElem? (i := 592) (by decide +kernel)), by decide +kernel⟩
theorem ke_X6_products : Cond.selects RX6 yX6_products yX6_products ∈ ltb := List.mem_filter.mpr ⟨List.mem_append_right _ (List.mem_of_getElem? (i := 593) (by decide +kernel)), by decide +kernel⟩
theorem kl_40 : Cond.methodLink RL 40 yX5_products ∈ ltb := List.mem_filter.mpr ⟨List.mem_append_right _ (List.mem_of_getElem? (i := 245) (by decide +kernel)), by decide +kernel⟩
theorem kl_43 : Cond.methodLink RL 43 yX6_products ∈ ltb := List.mem_filter.mpr ⟨List.mem_append_right _ (List.mem_of_getElem? (i := 591) (by decide +kernel)), by decide +kernel⟩
theorem kc_X5_joint : Cond.code yX5_joint cX5_joint 5 (some .boolean) ∈ ltb := List.mem_filter.mpr ⟨List.mem_append_right _ (List.mem_of_getElem? (i := 256) (by decide +kernel)), by decide +kernel⟩
theorem km_X5_joint : Mi yX5_joint RX5 4 cX5_joint 5 (some .boolean) := ⟨by decide +kernel, kc_X5_joint, ki_X5, by decide⟩
theorem kv_X5_joint : Cond.instanceMethod yX5_joint ∈ ltb := List.mem_filter.mpr ⟨List.mem_append_right _ (List.mem_of_getElem? (i := 254) (by decide +kernel)), by decide +kernel⟩
theorem ke_X5_joint : Cond.selects RX5 yX5_joint yX5_joint ∈ ltb := List.mem_filter.mpr ⟨List.mem_append_right _ (List.mem_of_getElem? (i := 255) (by decide +kernel)), by decide +kernel⟩
theorem kc_X6_joint : Cond.code yX6_joint cX6_joint 5 (some .boolean) ∈ ltb := List.mem_filter.mpr ⟨List.mem_append_right _ (List.mem_of_getElem? (i := 598) (by decide +kernel)), by decide +kernel⟩
theorem km_X6_joint : Mi yX6_joint RX6 4 cX6_joint 5 (some .boolean) := ⟨by decide +kernel, kc_X6_joint, ki_X6, by decide⟩
theorem kv_X6_joint : Cond.instanceMethod yX6_joint ∈ ltb := List.mem_filter.mpr ⟨List.mem_append_right _ (List.mem_of_getElem? (i := 596) (by decide +kernel)), by decide +kernel⟩
theorem ke_X6_joint : Cond.selects RX6 yX6_joint yX6_joint ∈ ltb := List.mem_filter.mpr ⟨List.mem_append_right _ (List.mem_of_getElem? (i := 597) (by decide +kernel)), by decide +kernel⟩
theorem kl_44 : Cond.methodLink RL 44 yX5_joint ∈ ltb := List.mem_filter.mpr ⟨List.mem_append_right _ (List.mem_of_getElem? (i := 253) (by decide +kernel)), by decide +kernel⟩
theorem kl_47 : Cond.methodLink RL 47 yX6_joint ∈ ltb := List.mem_filter.mpr ⟨List.mem_append_right _ (List.mem_of_getElem? (i := 595) (by decide +kernel)), by decide +kernel⟩
theorem kc_X5_torque : Cond.code yX5_torque cX5_torque 3 (some .boolean) ∈ ltb := List.mem_filter.mpr ⟨List.mem_append_right _ (List.mem_of_getElem? (i := 260) (by decide +kernel)), by decide +kernel⟩
theorem km_X5_torque : Mi yX5_torque RX5 2 cX5_torque 3 (some .boolean) := ⟨by decide +kernel, kc_X5_torque, ki_X5, by decide⟩
theorem kv_X5_torque : Cond.instanceMethod yX5_torque ∈ ltb := List.mem_filter.mpr ⟨List.mem_append_right _ (List.mem_of_getElem? (i := 258) (by decide +kernel)), by decide +kernel⟩
theorem ke_X5_torque : Cond.selects RX5 yX5_torque yX5_torque ∈ ltb := List.mem_filter.mpr ⟨List.mem_append_right _ (List.mem_of_getElem? (i := 259) (by decide +kernel)), by decide +kernel⟩
theorem kc_X6_torque : Cond.code yX6_torque cX6_torque 3 (some .boolean) ∈ ltb := List.mem_filter.mpr ⟨List.mem_append_right _ (List.mem_of_getElem? (i := 602) (by decide +kernel)), by decide +kernel⟩
theorem km_X6_torque : Mi yX6_torque RX6 2 cX6_torque 3 (some .boolean) := ⟨by decide +kernel, kc_X6_torque, ki_X6, by decide⟩
theorem kv_X6_torque : Cond.instanceMethod yX6_torque ∈ ltb := List.mem_filter.mpr ⟨List.mem_append_right _ (List.mem_of_getElem? (i := 600) (by decide +kernel)), by decide +kernel⟩
theorem ke_X6_torque : Cond.selects RX6 yX6_torque yX6_torque ∈ ltb := List.mem_filter.mpr ⟨List.mem_append_right _ (List.mem_of_getElem? (i := 601) (by decide +kernel)), by decide +kernel⟩
theorem kl_48 : Cond.methodLink RL 48 yX5_torque ∈ ltb := List.mem_filter.mpr ⟨List.mem_append_right _ (List.mem_of_getElem? (i := 257) (by decide +kernel)), by decide +kernel⟩
theorem kl_51 : Cond.methodLink RL 51 yX6_torque ∈ ltb := List.mem_filter.mpr ⟨List.mem_append_right _ (List.mem_of_getElem? (i := 599) (by decide +kernel)), by decide +kernel⟩
theorem kc_X5_gravity : Cond.code yX5_gravity cX5_gravity 4 none ∈ ltb := List.mem_filter.mpr ⟨List.mem_append_right _ (List.mem_of_getElem? (i := 264) (by decide +kernel)), by decide +kernel⟩
theorem km_X5_gravity : Mi yX5_gravity RX5 3 cX5_gravity 4 none := ⟨by decide +kernel, kc_X5_gravity, ki_X5, by decide⟩
theorem kv_X5_gravity : Cond.instanceMethod yX5_gravity ∈ ltb := List.mem_filter.mpr ⟨List.mem_append_right _ (List.mem_of_getElem? (i := 262) (by decide +kernel)), by decide +kernel⟩
theorem ke_X5_gravity : Cond.selects RX5 yX5_gravity yX5_gravity ∈ ltb := List.mem_filter.mpr ⟨List.mem_append_right _ (List.mem_of_getElem? (i := 263) (by decide +kernel)), by decide +kernel⟩
theorem kc_X6_gravity : Cond.code yX6_gravity cX6_gravity 4 none ∈ ltb := List.mem_filter.mpr ⟨List.mem_append_right _ (List.mem_of_getElem? (i := 606) (by decide +kernel)), by decide +kernel⟩
theorem km_X6_gravity : Mi yX6_gravity RX6 3 cX6_gravity 4 none := ⟨by decide +kernel, kc_X6_gravity, ki_X6, by decide⟩
theorem kv_X6_gravity : Cond.instanceMethod yX6_gravity ∈ ltb := List.mem_filter.mpr ⟨List.mem_append_right _ (List.mem_of_getElem? (i := 604) (by decide +kernel)), by decide +kernel⟩
theorem ke_X6_gravity : Cond.selects RX6 yX6_gravity yX6_gravity ∈ ltb := List.mem_filter.mpr ⟨List.mem_append_right _ (List.mem_of_getElem? (i := 605) (by decide +kernel)), by decide +kernel⟩
theorem kl_52 : Cond.methodLink RL 52 yX5_gravity ∈ ltb := List.mem_filter.mpr ⟨List.mem_append_right _ (List.mem_of_getElem? (i := 261) (by decide +kernel)), by decide +kernel⟩
theorem kl_56 : Cond.methodLink RL 56 yX6_gravity ∈ ltb := List.mem_filter.mpr ⟨List.mem_append_right _ (List.mem_of_getElem? (i := 603) (by decide +kernel)), by decide +kernel⟩
theorem kc_X5_needs : Cond.code yX5_needs cX5_needs 2 (some .int) ∈ ltb := List.mem_filter.mpr ⟨List.mem_append_right _ (List.mem_of_getElem? (i := 268) (by decide +kernel)), by decide +kernel⟩
theorem km_X5_needs : Mi yX5_needs RX5 1 cX5_needs 2 (some .int) := ⟨by decide +kernel, kc_X5_needs, ki_X5, by decide⟩
theorem kv_X5_needs : Cond.instanceMethod yX5_needs ∈ ltb := List.mem_filter.mpr ⟨List.mem_append_right _ (List.mem_of_getElem? (i := 266) (by decide +kernel)), by decide +kernel⟩
theorem ke_X5_needs : Cond.selects RX5 yX5_needs yX5_needs ∈ ltb := List.mem_filter.mpr ⟨List.mem_append_right _ (List.mem_of_getElem? (i := 267) (by decide +kernel)), by decide +kernel⟩
theorem kc_X6_needs : Cond.code yX6_needs cX6_needs 2 (some .int) ∈ ltb := List.mem_filter.mpr ⟨List.mem_append_right _ (List.mem_of_getElem? (i := 610) (by decide +kernel)), by decide +kernel⟩
theorem km_X6_needs : Mi yX6_needs RX6 1 cX6_needs 2 (some .int) := ⟨by decide +kernel, kc_X6_needs, ki_X6, by decide⟩
theorem kv_X6_needs : Cond.instanceMethod yX6_needs ∈ ltb := List.mem_filter.mpr ⟨List.mem_append_right _ (List.mem_of_getElem? (i := 608) (by decide +kernel)), by decide +kernel⟩
theorem ke_X6_needs : Cond.selects RX6 yX6_needs yX6_needs ∈ ltb := List.mem_filter.mpr ⟨List.mem_append_right _ (List.mem_of_getElem? (i := 609) (by decide +kernel)), by decide +kernel⟩
theorem kl_57 : Cond.methodLink RL 57 yX5_needs ∈ ltb := List.mem_filter.mpr ⟨List.mem_append_right _ (List.mem_of_getElem? (i := 265) (by decide +kernel)), by decide +kernel⟩
theorem kl_61 : Cond.methodLink RL 61 yX6_needs ∈ ltb := List.mem_filter.mpr ⟨List.mem_append_right _ (List.mem_of_getElem? (i := 607) (by decide +kernel)), by decide +kernel⟩
theorem kc_X5_matrix : Cond.code yX5_matrix cX5_matrix 3 (some .int) ∈ ltb := List.mem_filter.mpr ⟨List.mem_append_right _ (List.mem_of_getElem? (i := 400) (by decide +kernel)), by decide +kernel⟩
theorem km_X5_matrix : Mi yX5_matrix RX5 2 cX5_matrix 3 (some .int) := ⟨by decide +kernel, kc_X5_matrix, ki_X5, by decide⟩
theorem kv_X5_matrix : Cond.instanceMethod yX5_matrix ∈ ltb := List.mem_filter.mpr ⟨List.mem_append_right _ (List.mem_of_getElem? (i := 398) (by decide +kernel)), by decide +kernel⟩
theorem ke_X5_matrix : Cond.selects RX5 yX5_matrix yX5_matrix ∈ ltb := List.mem_filter.mpr ⟨List.mem_append_right _ (List.mem_of_getElem? (i := 399) (by decide +kernel)), by decide +kernel⟩
theorem kc_X6_matrix : Cond.code yX6_matrix cX6_matrix 3 (some .int) ∈ ltb := List.mem_filter.mpr ⟨List.mem_append_right _ (List.mem_of_getElem? (i := 678) (by decide +kernel)), by decide +kernel⟩
theorem km_X6_matrix : Mi yX6_matrix RX6 2 cX6_matrix 3 (some .int) := ⟨by decide +kernel, kc_X6_matrix, ki_X6, by decide⟩
theorem kv_X6_matrix : Cond.instanceMethod yX6_matrix ∈ ltb := List.mem_filter.mpr ⟨List.mem_append_right _ (List.mem_of_getElem? (i := 676) (by decide +kernel)), by decide +kernel⟩
theorem ke_X6_matrix : Cond.selects RX6 yX6_matrix yX6_matrix ∈ ltb := List.mem_filter.mpr ⟨List.mem_append_right _ (List.mem_of_getElem? (i := 677) (by decide +kernel)), by decide +kernel⟩
theorem kl_62 : Cond.methodLink RL 62 yX5_matrix ∈ ltb := List.mem_filter.mpr ⟨List.mem_append_right _ (List.mem_of_getElem? (i := 397) (by decide +kernel)), by decide +kernel⟩
theorem kl_66 : Cond.methodLink RL 66 yX6_matrix ∈ ltb := List.mem_filter.mpr ⟨List.mem_append_right _ (List.mem_of_getElem? (i := 675) (by decide +kernel)), by decide +kernel⟩
theorem kc_X5_bias : Cond.code yX5_bias cX5_bias 2 (some .int) ∈ ltb := List.mem_filter.mpr ⟨List.mem_append_right _ (List.mem_of_getElem? (i := 408) (by decide +kernel)), by decide +kernel⟩
theorem km_X5_bias : Mi yX5_bias RX5 1 cX5_bias 2 (some .int) := ⟨by decide +kernel, kc_X5_bias, ki_X5, by decide⟩
theorem kv_X5_bias : Cond.instanceMethod yX5_bias ∈ ltb := List.mem_filter.mpr ⟨List.mem_append_right _ (List.mem_of_getElem? (i := 406) (by decide +kernel)), by decide +kernel⟩
theorem ke_X5_bias : Cond.selects RX5 yX5_bias yX5_bias ∈ ltb := List.mem_filter.mpr ⟨List.mem_append_right _ (List.mem_of_getElem? (i := 407) (by decide +kernel)), by decide +kernel⟩
theorem kc_X6_bias : Cond.code yX6_bias cX6_bias 2 (some .int) ∈ ltb := List.mem_filter.mpr ⟨List.mem_append_right _ (List.mem_of_getElem? (i := 686) (by decide +kernel)), by decide +kernel⟩
theorem km_X6_bias : Mi yX6_bias RX6 1 cX6_bias 2 (some .int) := ⟨by decide +kernel, kc_X6_bias, ki_X6, by decide⟩
theorem kv_X6_bias : Cond.instanceMethod yX6_bias ∈ ltb := List.mem_filter.mpr ⟨List.mem_append_right _ (List.mem_of_getElem? (i := 684) (by decide +kernel)), by decide +kernel⟩
theorem ke_X6_bias : Cond.selects RX6 yX6_bias yX6_bias ∈ ltb := List.mem_filter.mpr ⟨List.mem_append_right _ (List.mem_of_getElem? (i := 685) (by decide +kernel)), by decide +kernel⟩
theorem kl_67 : Cond.methodLink RL 67 yX5_bias ∈ ltb := List.mem_filter.mpr ⟨List.mem_append_right _ (List.mem_of_getElem? (i := 405) (by decide +kernel)), by decide +kernel⟩
theorem kl_70 : Cond.methodLink RL 70 yX6_bias ∈ ltb := List.mem_filter.mpr ⟨List.mem_append_right _ (List.mem_of_getElem? (i := 683) (by decide +kernel)), by decide +kernel⟩
theorem kc_X5_forward : Cond.code yX5_forward cX5_forward 2 (some .int) ∈ ltb := List.mem_filter.mpr ⟨List.mem_append_right _ (List.mem_of_getElem? (i := 412) (by decide +kernel)), by decide +kernel⟩
theorem km_X5_forward : Mi yX5_forward RX5 0 cX5_forward 2 (some .int) := ⟨by decide +kernel, kc_X5_forward, ki_X5, by decide⟩
theorem kv_X5_forward : Cond.instanceMethod yX5_forward ∈ ltb := List.mem_filter.mpr ⟨List.mem_append_right _ (List.mem_of_getElem? (i := 410) (by decide +kernel)), by decide +kernel⟩
theorem ke_X5_forward : Cond.selects RX5 yX5_forward yX5_forward ∈ ltb := List.mem_filter.mpr ⟨List.mem_append_right _ (List.mem_of_getElem? (i := 411) (by decide +kernel)), by decide +kernel⟩
theorem kc_X6_forward : Cond.code yX6_forward cX6_forward 2 (some .int) ∈ ltb := List.mem_filter.mpr ⟨List.mem_append_right _ (List.mem_of_getElem? (i := 690) (by decide +kernel)), by decide +kernel⟩
theorem km_X6_forward : Mi yX6_forward RX6 0 cX6_forward 2 (some .int) := ⟨by decide +kernel, kc_X6_forward, ki_X6, by decide⟩
theorem kv_X6_forward : Cond.instanceMethod yX6_forward ∈ ltb := List.mem_filter.mpr ⟨List.mem_append_right _ (List.mem_of_getElem? (i := 688) (by decide +kernel)), by decide +kernel⟩
theorem ke_X6_forward : Cond.selects RX6 yX6_forward yX6_forward ∈ ltb := List.mem_filter.mpr ⟨List.mem_append_right _ (List.mem_of_getElem? (i := 689) (by decide +kernel)), by decide +kernel⟩
theorem kl_71 : Cond.methodLink RL 71 yX5_forward ∈ ltb := List.mem_filter.mpr ⟨List.mem_append_right _ (List.mem_of_getElem? (i := 409) (by decide +kernel)), by decide +kernel⟩
theorem kl_75 : Cond.methodLink RL 75 yX6_forward ∈ ltb := List.mem_filter.mpr ⟨List.mem_append_right _ (List.mem_of_getElem? (i := 687) (by decide +kernel)), by decide +kernel⟩
theorem kc_X5_acceleration : Cond.code yX5_acceleration cX5_acceleration 2 (some .int) ∈ ltb := List.mem_filter.mpr ⟨List.mem_append_right _ (List.mem_of_getElem? (i := 435) (by decide +kernel)), by decide +kernel⟩
theorem km_X5_acceleration : Mi yX5_acceleration RX5 1 cX5_acceleration 2 (some .int) := ⟨by decide +kernel, kc_X5_acceleration, ki_X5, by decide⟩
theorem kv_X5_acceleration : Cond.instanceMethod yX5_acceleration ∈ ltb := List.mem_filter.mpr ⟨List.mem_append_right _ (List.mem_of_getElem? (i := 433) (by decide +kernel)), by decide +kernel⟩
theorem ke_X5_acceleration : Cond.selects RX5 yX5_acceleration yX5_acceleration ∈ ltb := List.mem_filter.mpr ⟨List.mem_append_right _ (List.mem_of_getElem? (i := 434) (by decide +kernel)), by decide +kernel⟩
theorem kc_X6_acceleration : Cond.code yX6_acceleration cX6_acceleration 2 (some .int) ∈ ltb := List.mem_filter.mpr ⟨List.mem_append_right _ (List.mem_of_getElem? (i := 702) (by decide +kernel)), by decide +kernel⟩
theorem km_X6_acceleration : Mi yX6_acceleration RX6 1 cX6_acceleration 2 (some .int) := ⟨by decide +kernel, kc_X6_acceleration, ki_X6, by decide⟩
theorem kv_X6_acceleration : Cond.instanceMethod yX6_acceleration ∈ ltb := List.mem_filter.mpr ⟨List.mem_append_right _ (List.mem_of_getElem? (i := 700) (by decide +kernel)), by decide +kernel⟩
theorem ke_X6_acceleration : Cond.selects RX6 yX6_acceleration yX6_acceleration ∈ ltb := List.mem_filter.mpr ⟨List.mem_append_right _ (List.mem_of_getElem? (i := 701) (by decide +kernel)), by decide +kernel⟩
theorem kl_76 : Cond.methodLink RL 76 yX5_acceleration ∈ ltb := List.mem_filter.mpr ⟨List.mem_append_right _ (List.mem_of_getElem? (i := 432) (by decide +kernel)), by decide +kernel⟩
theorem kl_79 : Cond.methodLink RL 79 yX6_acceleration ∈ ltb := List.mem_filter.mpr ⟨List.mem_append_right _ (List.mem_of_getElem? (i := 699) (by decide +kernel)), by decide +kernel⟩
theorem kc_X5_energy : Cond.code yX5_energy cX5_energy 4 (some .int) ∈ ltb := List.mem_filter.mpr ⟨List.mem_append_right _ (List.mem_of_getElem? (i := 439) (by decide +kernel)), by decide +kernel⟩
theorem km_X5_energy : Mi yX5_energy RX5 0 cX5_energy 4 (some .int) := ⟨by decide +kernel, kc_X5_energy, ki_X5, by decide⟩
theorem kv_X5_energy : Cond.instanceMethod yX5_energy ∈ ltb := List.mem_filter.mpr ⟨List.mem_append_right _ (List.mem_of_getElem? (i := 437) (by decide +kernel)), by decide +kernel⟩
theorem ke_X5_energy : Cond.selects RX5 yX5_energy yX5_energy ∈ ltb := List.mem_filter.mpr ⟨List.mem_append_right _ (List.mem_of_getElem? (i := 438) (by decide +kernel)), by decide +kernel⟩
theorem kc_X6_energy : Cond.code yX6_energy cX6_energy 5 (some .int) ∈ ltb := List.mem_filter.mpr ⟨List.mem_append_right _ (List.mem_of_getElem? (i := 706) (by decide +kernel)), by decide +kernel⟩
theorem km_X6_energy : Mi yX6_energy RX6 0 cX6_energy 5 (some .int) := ⟨by decide +kernel, kc_X6_energy, ki_X6, by decide⟩
theorem kv_X6_energy : Cond.instanceMethod yX6_energy ∈ ltb := List.mem_filter.mpr ⟨List.mem_append_right _ (List.mem_of_getElem? (i := 704) (by decide +kernel)), by decide +kernel⟩
theorem ke_X6_energy : Cond.selects RX6 yX6_energy yX6_energy ∈ ltb := List.mem_filter.mpr ⟨List.mem_append_right _ (List.mem_of_getElem? (i := 705) (by decide +kernel)), by decide +kernel⟩
theorem kl_80 : Cond.methodLink RL 80 yX5_energy ∈ ltb := List.mem_filter.mpr ⟨List.mem_append_right _ (List.mem_of_getElem? (i := 436) (by decide +kernel)), by decide +kernel⟩
theorem kl_83 : Cond.methodLink RL 83 yX6_energy ∈ ltb := List.mem_filter.mpr ⟨List.mem_append_right _ (List.mem_of_getElem? (i := 703) (by decide +kernel)), by decide +kernel⟩
theorem kc_X5_where : Cond.code yX5_where cX5_where 3 (some .int) ∈ ltb := List.mem_filter.mpr ⟨List.mem_append_right _ (List.mem_of_getElem? (i := 444) (by decide +kernel)), by decide +kernel⟩
theorem km_X5_where : Mi yX5_where RX5 2 cX5_where 3 (some .int) := ⟨by decide +kernel, kc_X5_where, ki_X5, by decide⟩
theorem kv_X5_where : Cond.instanceMethod yX5_where ∈ ltb := List.mem_filter.mpr ⟨List.mem_append_right _ (List.mem_of_getElem? (i := 442) (by decide +kernel)), by decide +kernel⟩
theorem ke_X5_where : Cond.selects RX5 yX5_where yX5_where ∈ ltb := List.mem_filter.mpr ⟨List.mem_append_right _ (List.mem_of_getElem? (i := 443) (by decide +kernel)), by decide +kernel⟩
theorem kc_X6_where : Cond.code yX6_where cX6_where 4 (some .int) ∈ ltb := List.mem_filter.mpr ⟨List.mem_append_right _ (List.mem_of_getElem? (i := 710) (by decide +kernel)), by decide +kernel⟩
theorem km_X6_where : Mi yX6_where RX6 2 cX6_where 4 (some .int) := ⟨by decide +kernel, kc_X6_where, ki_X6, by decide⟩
theorem kv_X6_where : Cond.instanceMethod yX6_where ∈ ltb := List.mem_filter.mpr ⟨List.mem_append_right _ (List.mem_of_getElem? (i := 708) (by decide +kernel)), by decide +kernel⟩
theorem ke_X6_where : Cond.selects RX6 yX6_where yX6_where ∈ ltb := List.mem_filter.mpr ⟨List.mem_append_right _ (List.mem_of_getElem? (i := 709) (by decide +kernel)), by decide +kernel⟩
theorem kl_84 : Cond.methodLink RL 84 yX5_where ∈ ltb := List.mem_filter.mpr ⟨List.mem_append_right _ (List.mem_of_getElem? (i := 441) (by decide +kernel)), by decide +kernel⟩
theorem kl_87 : Cond.methodLink RL 87 yX6_where ∈ ltb := List.mem_filter.mpr ⟨List.mem_append_right _ (List.mem_of_getElem? (i := 707) (by decide +kernel)), by decide +kernel⟩
theorem kc_X5_weight : Cond.code yX5_weight cX5_weight 7 (some .int) ∈ ltb := List.mem_filter.mpr ⟨List.mem_append_right _ (List.mem_of_getElem? (i := 456) (by decide +kernel)), by decide +kernel⟩
theorem km_X5_weight : Mi yX5_weight RX5 1 cX5_weight 7 (some .int) := ⟨by decide +kernel, kc_X5_weight, ki_X5, by decide⟩
theorem kv_X5_weight : Cond.instanceMethod yX5_weight ∈ ltb := List.mem_filter.mpr ⟨List.mem_append_right _ (List.mem_of_getElem? (i := 454) (by decide +kernel)), by decide +kernel⟩
theorem ke_X5_weight : Cond.selects RX5 yX5_weight yX5_weight ∈ ltb := List.mem_filter.mpr ⟨List.mem_append_right _ (List.mem_of_getElem? (i := 455) (by decide +kernel)), by decide +kernel⟩
theorem kc_X6_weight : Cond.code yX6_weight cX6_weight 5 (some .int) ∈ ltb := List.mem_filter.mpr ⟨List.mem_append_right _ (List.mem_of_getElem? (i := 714) (by decide +kernel)), by decide +kernel⟩
theorem km_X6_weight : Mi yX6_weight RX6 1 cX6_weight 5 (some .int) := ⟨by decide +kernel, kc_X6_weight, ki_X6, by decide⟩
theorem kv_X6_weight : Cond.instanceMethod yX6_weight ∈ ltb := List.mem_filter.mpr ⟨List.mem_append_right _ (List.mem_of_getElem? (i := 712) (by decide +kernel)), by decide +kernel⟩
theorem ke_X6_weight : Cond.selects RX6 yX6_weight yX6_weight ∈ ltb := List.mem_filter.mpr ⟨List.mem_append_right _ (List.mem_of_getElem? (i := 713) (by decide +kernel)), by decide +kernel⟩
theorem kl_88 : Cond.methodLink RL 88 yX5_weight ∈ ltb := List.mem_filter.mpr ⟨List.mem_append_right _ (List.mem_of_getElem? (i := 453) (by decide +kernel)), by decide +kernel⟩
theorem kl_91 : Cond.methodLink RL 91 yX6_weight ∈ ltb := List.mem_filter.mpr ⟨List.mem_append_right _ (List.mem_of_getElem? (i := 711) (by decide +kernel)), by decide +kernel⟩
theorem kc_X5_step : Cond.code yX5_step cX5_step 5 none ∈ ltb := List.mem_filter.mpr ⟨List.mem_append_right _ (List.mem_of_getElem? (i := 460) (by decide +kernel)), by decide +kernel⟩
theorem km_X5_step : Mi yX5_step RX5 1 cX5_step 5 none := ⟨by decide +kernel, kc_X5_step, ki_X5, by decide⟩
theorem kv_X5_step : Cond.instanceMethod yX5_step ∈ ltb := List.mem_filter.mpr ⟨List.mem_append_right _ (List.mem_of_getElem? (i := 458) (by decide +kernel)), by decide +kernel⟩
theorem ke_X5_step : Cond.selects RX5 yX5_step yX5_step ∈ ltb := List.mem_filter.mpr ⟨List.mem_append_right _ (List.mem_of_getElem? (i := 459) (by decide +kernel)), by decide +kernel⟩
theorem kc_X6_step : Cond.code yX6_step cX6_step 5 none ∈ ltb := List.mem_filter.mpr ⟨List.mem_append_right _ (List.mem_of_getElem? (i := 718) (by decide +kernel)), by decide +kernel⟩
theorem km_X6_step : Mi yX6_step RX6 1 cX6_step 5 none := ⟨by decide +kernel, kc_X6_step, ki_X6, by decide⟩
theorem kv_X6_step : Cond.instanceMethod yX6_step ∈ ltb := List.mem_filter.mpr ⟨List.mem_append_right _ (List.mem_of_getElem? (i := 716) (by decide +kernel)), by decide +kernel⟩
theorem ke_X6_step : Cond.selects RX6 yX6_step yX6_step ∈ ltb := List.mem_filter.mpr ⟨List.mem_append_right _ (List.mem_of_getElem? (i := 717) (by decide +kernel)), by decide +kernel⟩
theorem kl_92 : Cond.methodLink RL 92 yX5_step ∈ ltb := List.mem_filter.mpr ⟨List.mem_append_right _ (List.mem_of_getElem? (i := 457) (by decide +kernel)), by decide +kernel⟩
theorem kl_96 : Cond.methodLink RL 96 yX6_step ∈ ltb := List.mem_filter.mpr ⟨List.mem_append_right _ (List.mem_of_getElem? (i := 715) (by decide +kernel)), by decide +kernel⟩
/-! The law's own frame: reading the script, calling the class and the reference, comparing -/
abbrev VV : Type := Heap → List Loc → Nat → List Value → Prop
def Pu (V : VV) (S : Heap → List Loc → Prop) (pc pc' : Nat) (vs : List Value) : Prop := ∀ (H : Heap) (locs : List Loc) (rest : List Value), S H locs → V H locs pc' (vs.reverse ++ rest) → V H locs pc rest
theorem Pu_nil {V : VV} {S : Heap → List Loc → Prop} {pc : Nat} : Pu V S pc pc [] := fun _ _ _ _ h => h
theorem Pu_cons {V : VV} {S : Heap → List Loc → Prop} {pc pc1 pc2 : Nat} {v : Value} {vs : List Value} (h1 : Pu V S pc pc1 [v]) (h2 : Pu V S pc1 pc2 vs) : Pu V S pc pc2 (v :: vs) := fun H locs rest hS h => by
  have e : (v :: vs).reverse ++ rest = vs.reverse ++ ([v].reverse ++ rest) := by simp
  rw [e] at h
  exact h1 H locs rest hS (h2 H locs _ hS h)
def Cal (V : VV) (S : Heap → List Loc → Prop) (G : Geo) (kd pc : Nat) (sp : Spc) (n : Nat) : Prop := ∀ (As : List AV) (rest : List Value) (σ : SS) (H : Heap) (locs : List Loc) (post : Option AV → SS → Prop), okS As → As.length = n → (rest.map fun v => v.category).sum ≤ 8 → va_P G.1 vwCl (wsOf G σ) H → S H locs → sp (ar kd 0 :: As) σ post →
  (∀ (r : Option AV) (σ' : SS) (H1 : Heap) (locs1 : List Loc), post r σ' → va_P G.1 vwCl (wsOf G σ') H1 → S H1 locs1 → V H1 locs1 (pc + 3) ((r.map (conc G)).toList ++ rest)) → V H locs pc ((As.map (conc G)).reverse ++ .ref (G.2.2 kd 0) :: rest)
theorem cat_r (G : Geo) (r : Option AV) : (((r.map (conc G)).toList ++ ([] : List Value)).map fun v => v.category).sum ≤ 8 := by
  rcases r with _ | x | x | x
  · exact Nat.zero_le _
  · exact Nat.le_of_ble_eq_true rfl
  · exact Nat.le_of_ble_eq_true rfl
  · exact Nat.le_of_ble_eq_true rfl
theorem bz_01 (b : Bool) : bz b = 0 ∨ bz b = 1 := by
  cases b
  · exact Or.inl rfl
  · exact Or.inr rfl
/-- a case of the law that compares -/
theorem ca_eq {V : VV} {S : Heap → List Loc → Prop} {G : Geo} {spC spM : Spc} {n pc p1 p2 tgt : Nat} {As : List AV} {σ : SS} {H : Heap} {locs : List Loc} (hok : okS As) (hn : As.length = n)
    (l1 : ∀ H locs rest, V H locs (pc + 1) (.ref (G.2.2 0 0) :: rest) → V H locs pc rest) (P1 : Pu V S (pc + 1) p1 (As.map (conc G))) (c1 : Cal V S G 0 p1 spC n)
    (l2 : ∀ H locs rest, V H locs (p1 + 3 + 1) (.ref (G.2.2 6 0) :: rest) → V H locs (p1 + 3) rest) (P2 : Pu V S (p1 + 3 + 1) p2 (As.map (conc G))) (c2 : Cal V S G 6 p2 spM n)
    (j : ∀ H locs (v : Int32) rest, V H locs tgt rest → V H locs (p2 + 3) (.int v :: .int v :: rest))
    (hag : spC (ar 0 0 :: As) σ (fun r s => spM (ar 6 0 :: As) s (fun r' s' => EQ r r' ∧ Rel s'))) (hP : va_P G.1 vwCl (wsOf G σ) H) (hS : S H locs)
    (kk : ∀ (σ' : SS) (H1 : Heap) (locs1 : List Loc), Rel σ' → va_P G.1 vwCl (wsOf G σ') H1 → S H1 locs1 → V H1 locs1 tgt []) : V H locs pc [] := by
  refine l1 _ _ _ (P1 _ _ _ hS ?_)
  refine c1 As [] σ H locs _ hok hn (Nat.zero_le _) hP hS hag (fun r σ1 H1 locs1 hp hP1 hS1 => ?_)
  refine l2 _ _ _ (P2 _ _ _ hS1 ?_)
  refine c2 As ((r.map (conc G)).toList ++ []) σ1 H1 locs1 _ hok hn (cat_r G r) hP1 hS1 hp (fun r' σ2 H2 locs2 hq hP2 hS2 => ?_)
  obtain ⟨⟨v, rfl, rfl⟩, hR⟩ := hq
  exact j _ _ _ _ (kk σ2 H2 locs2 hR hP2 hS2)
/-- one that only calls -/
theorem ca_no {V : VV} {S : Heap → List Loc → Prop} {G : Geo} {spC spM : Spc} {n pc p1 p2 tgt : Nat} {As : List AV} {σ : SS} {H : Heap} {locs : List Loc} (hok : okS As) (hn : As.length = n)
    (l1 : ∀ H locs rest, V H locs (pc + 1) (.ref (G.2.2 0 0) :: rest) → V H locs pc rest) (P1 : Pu V S (pc + 1) p1 (As.map (conc G))) (c1 : Cal V S G 0 p1 spC n)
    (l2 : ∀ H locs rest, V H locs (p1 + 3 + 1) (.ref (G.2.2 6 0) :: rest) → V H locs (p1 + 3) rest) (P2 : Pu V S (p1 + 3 + 1) p2 (As.map (conc G))) (c2 : Cal V S G 6 p2 spM n)
    (j : ∀ H locs rest, V H locs tgt rest → V H locs (p2 + 3) rest)
    (hag : spC (ar 0 0 :: As) σ (fun r s => spM (ar 6 0 :: As) s (fun r' s' => NO r r' ∧ Rel s'))) (hP : va_P G.1 vwCl (wsOf G σ) H) (hS : S H locs)
    (kk : ∀ (σ' : SS) (H1 : Heap) (locs1 : List Loc), Rel σ' → va_P G.1 vwCl (wsOf G σ') H1 → S H1 locs1 → V H1 locs1 tgt []) : V H locs pc [] := by
  refine l1 _ _ _ (P1 _ _ _ hS ?_)
  refine c1 As [] σ H locs _ hok hn (Nat.zero_le _) hP hS hag (fun r σ1 H1 locs1 hp hP1 hS1 => ?_)
  refine l2 _ _ _ (P2 _ _ _ hS1 ?_)
  refine c2 As ((r.map (conc G)).toList ++ []) σ1 H1 locs1 _ hok hn (cat_r G r) hP1 hS1 hp (fun r' σ2 H2 locs2 hq hP2 hS2 => ?_)
  obtain ⟨⟨rfl, rfl⟩, hR⟩ := hq
  exact j _ _ _ (kk σ2 H2 locs2 hR hP2 hS2)
/-- what stands fixed in the law -/
def LX (G : Geo) (A : Nat → Prop) (b L : Nat) (xs : Nat → Int32) (cells slots : Nat) (p : Program) (s : State) (m : MethodId) (args : Array Value) (meth : Method) (c : Code) : Prop :=
  Cx G RL cL_law 4 ret p s m args meth c ∧ (∀ q, AG G q → A q) ∧ va_X b L xs s s.heap ∧ b < s.heap.size ∧ ¬ A b ∧ L ≤ 2560 ∧ cells ≤ room_1.cells ∧ slots ≤ room_1.slots
def lws (G : Geo) (b i : Nat) : List (Nat × Value) := [(3, .int (nI i)), (2, .ref (G.2.2 6 0)), (1, .ref (G.2.2 0 0)), (0, .ref b)]
section LW
variable {p : Program} {l : Launch} {e : Env} {s : State} {m : MethodId} {args : Array Value} {below : List Frame} {meth : Method} {c : Code} {Q : State → Prop} {cells slots : Nat} {G : Geo} {A : Nat → Prop} {b L : Nat} {xs : Nat → Int32} {ls : Array Slot} {i : Nat}
abbrev VL (p : Program) (l : Launch) (e : Env) (s : State) (m : MethodId) (args : Array Value) (below : List Frame) (meth : Method) (c : Code) (Q : State → Prop) (cells slots : Nat) (ls : Array Slot) : VV := fun H locs pc stk => W p l e room_1 s m args below meth c H locs cells slots Q (F0 m pc ls stk)
theorem run_law {H : Heap} {locs : List Loc} {pc : Nat} {st0 rest : List Value} {a : Array Value} {post : Option AV → SS → Prop}
    (hr : va_Run p l e room_1 s m args below meth c H locs cells slots 0 0 (F0 m pc ls st0) rest (Qp G post a) (AG G)) (hS : va_S A s.heap H locs) (hA : ∀ q, AG G q → A q)
    (kk : ∀ (r : Option AV) (σ' : SS) (H1 : Heap) (locs1 : List Loc), post r σ' → va_P G.1 vwCl (wsOf G σ') H1 → va_S A s.heap H1 locs1 → W p l e room_1 s m args below meth c H1 locs1 cells slots Q (F0 m (pc + 3) ls ((r.map (conc G)).toList ++ rest))) :
    W p l e room_1 s m args below meth c H locs cells slots Q (F0 m pc ls st0) := by
  intro T hT X
  obtain ⟨v, st₀, t, T', L, h0, X', hL, e1, e2, ⟨⟨r, σ', hv, hok, hp, hP, hK⟩, hz, hk⟩, st⟩ := hr T hT X
  cases hv
  rw [h0] at hz hk
  obtain ⟨t2, a1, b1⟩ := kk r σ' T'.heap (locs ++ L) hp (by rw [e1]; exact hP)
    ⟨Nat.le_trans hS.1 (by rw [e1]; exact hz), fun q h1 h2 => by rw [e1, hk q (Nat.lt_of_lt_of_le h1 hS.1) (fun h => h2 (hA q h))]; exact hS.2.1 q h1 h2, fun q hq => by
      rcases List.mem_append.mp hq with h | h
      · exact hS.2.2 q h
      · exact hA _ (hL q h)⟩ T' rfl X'
  exact ⟨t2, st t2 a1, b1⟩
theorem lw_cal (K : LX G A b L xs cells slots p s m args meth c) (hl : lv_has ls 4 (lws G b i)) {y : MethodName} {C9 : String} {n ci : Nat} {T : u_T} {N : Nat} {ty0 : Nat → FieldType} (hC : Cls ci C9 T N ty0) {c2 : ByteArray} {maxL : Nat} {rt : Option FieldType} {d2 : Nat} {sp : Spc} {idx kd pc : Nat} (hM : Ct G l y c2 maxL rt d2 sp) (hI : Mi y C9 n c2 maxL rt) (hin : Cond.instanceMethod y ∈ ltb) (hse : Cond.selects C9 y y ∈ ltb) (hln : Cond.methodLink RL idx y ∈ ltb) (hok : (kd, 0) ∈ prs) (hcl : kd < 10 ∧ clx kd = ci ∧ ci < 50) (hr : d2 + 1 ≤ room_1.frames ∧ 8 + (maxL + 11) + 46 * d2 ≤ room_1.locals)
    (hd : decode cL_law pc = .ok (.invokevirtual idx, 3)) : Cal (VL p l e s m args below meth c Q cells slots ls) (va_S A s.heap) G kd pc sp n := by
  intro As rest σ H locs post hAs hlen hrest hP hS hsp kk
  obtain ⟨⟨hx, hb, hml, hown, hts, hret, hlk, hK, hG⟩, hA, -, -, -, -, hcs, hss⟩ := K
  obtain ⟨⟨hyC, hy1, hy2, hy3⟩, hco, hini, hmx⟩ := hI
  obtain ⟨h10, hci, h50⟩ := hcl
  have hMet := hM (ar kd 0 :: As) σ post ⟨hok, hAs⟩ hsp
  obtain ⟨q0, g1, g2⟩ := ws_get G σ hok
  rw [cell_o G σ 0 h10 (by omega), hci] at g2
  have hgood : GoodIn ltb (wsV RL idx C9 y (.code y c2 maxL rt :: ltb)) := good_c hln (good_c hin (good_c hse (good_c hini (good_c hco goodTbl))))
  exact run_law (va_runV (As := As.map (conc G)) (rest := rest) (b := G.2.2 kd 0) ⟨hx, hb, hml, hown, hts⟩ hMet (cwV n hts hgood rfl rfl rfl ⟨hyC, hy1, hy2, hy3⟩ hr)
    ⟨pc_blind, va_recv hK hP hC.1 g2, fun U hU hW => ⟨rfl, by rw [hU]; exact hP, va_K.moved hW.alike hK⟩⟩ rfl (by rw [List.length_map]; exact hlen) hl.1 rfl (lv_room hrest) hd ⟨hcs, hss⟩) hS hA kk
theorem lw_sc (K : LX G A b L xs cells slots p s m args meth c) (hl : lv_has ls 4 (lws G b i)) (hi : i + 5 ≤ L) {pc : Nat} (k : Nat) {n : Int} (hk : k < 5) (hn : Int32.ofInt n = nI k) (d0 : decode cL_law pc = .ok (.aload_n 0, 1)) (d1 : decode cL_law (pc + 1) = .ok (.iload_n 3, 1)) (d2 : decode cL_law (pc + 1 + 1) = .ok (.iconst n, 1)) (d3 : decode cL_law (pc + 1 + 1 + 1) = .ok (.iadd, 1)) (d4 : decode cL_law (pc + 1 + 1 + 1 + 1) = .ok (.iaload, 1)) : Pu (VL p l e s m args below meth c Q cells slots ls) (va_S A s.heap) pc (pc + 1 + 1 + 1 + 1 + 1) [.int (xs (i + k))] := by
  intro H locs rest hS h
  obtain ⟨⟨hx, hb, hml, hown, hts, hret, hlk, hK, hG⟩, hA, hX, hbl, hbA, hL, hcs, hss⟩ := K
  refine lv_aload_n hx hb d0 rfl (lv_at hl 3 rfl) ?_
  refine lv_iload_n hx hb d1 rfl (lv_at hl 0 rfl) ?_
  refine lv_iconst hx hb d2 hn ?_
  refine lv_iadd hx hb d3 ?_
  rw [nI_add]
  refine va_sld hx hb hX hbl hbA hS (vp_in_nI (by omega) (by omega)) d4 ?_
  rw [nI_clamp (by omega)]
  exact h
theorem lw_bo (K : LX G A b L xs cells slots p s m args meth c) (hl : lv_has ls 4 (lws G b i)) (hi : i + 5 ≤ L) {pc : Nat} (k : Nat) {n : Int} (hk : k < 5) (hn : Int32.ofInt n = nI k) (d0 : decode cL_law pc = .ok (.aload_n 0, 1)) (d1 : decode cL_law (pc + 1) = .ok (.iload_n 3, 1)) (d2 : decode cL_law (pc + 1 + 1) = .ok (.iconst n, 1)) (d3 : decode cL_law (pc + 1 + 1 + 1) = .ok (.iadd, 1)) (d4 : decode cL_law (pc + 1 + 1 + 1 + 1) = .ok (.iaload, 1))
    (d5 : decode cL_law (pc + 1 + 1 + 1 + 1 + 1) = .ok (.ifCond .eq 7, 3)) (d6 : decode cL_law (pc + 1 + 1 + 1 + 1 + 1 + 3) = .ok (.iconst 1, 1)) (d7 : decode cL_law (pc + 1 + 1 + 1 + 1 + 1 + 3 + 1) = .ok (.goto 4, 3)) (d8 : decode cL_law (pc + 1 + 1 + 1 + 1 + 1 + 3 + 1 + 3) = .ok (.iconst 0, 1)) :
    Pu (VL p l e s m args below meth c Q cells slots ls) (va_S A s.heap) pc (pc + 1 + 1 + 1 + 1 + 1 + 3 + 1 + 3 + 1) [.int (bz (decide (xs (i + k) ≠ 0)))] := by
  intro H locs rest hS h
  refine lw_sc K hl hi k hk hn d0 d1 d2 d3 d4 H locs rest hS ?_
  obtain ⟨⟨hx, hb, hml, hown, hts, hret, hlk, hK, hG⟩, hA, hX, hbl, hbA, hL, hcs, hss⟩ := K
  refine lv_if_eq hx hb d5 (tgt := pc + 1 + 1 + 1 + 1 + 1 + 3 + 1 + 3) (by omega) (fun g => ?_) (fun g => ?_)
  · refine lv_iconst hx hb d8 (v := nI 0) rfl ?_
    rw [show decide (xs (i + k) ≠ 0) = false from decide_eq_false (fun q => q g)] at h
    exact h
  · refine lv_iconst hx hb d6 (v := nI 1) rfl ?_
    refine lv_goto hx hb d7 (tgt := pc + 1 + 1 + 1 + 1 + 1 + 3 + 1 + 3 + 1) (by omega) ?_
    rw [show decide (xs (i + k) ≠ 0) = true from decide_eq_true g] at h
    exact h
theorem lw_a1 (K : LX G A b L xs cells slots p s m args meth c) (hl : lv_has ls 4 (lws G b i)) {pc : Nat} (d : decode cL_law pc = .ok (.aload_n 1, 1)) : ∀ H locs rest, VL p l e s m args below meth c Q cells slots ls H locs (pc + 1) (.ref (G.2.2 0 0) :: rest) → VL p l e s m args below meth c Q cells slots ls H locs pc rest := fun _ _ _ h => lv_aload_n K.1.1 K.1.2.1 d rfl (lv_at hl 2 rfl) h
theorem lw_a2 (K : LX G A b L xs cells slots p s m args meth c) (hl : lv_has ls 4 (lws G b i)) {pc : Nat} (d : decode cL_law pc = .ok (.aload_n 2, 1)) : ∀ H locs rest, VL p l e s m args below meth c Q cells slots ls H locs (pc + 1) (.ref (G.2.2 6 0) :: rest) → VL p l e s m args below meth c Q cells slots ls H locs pc rest := fun _ _ _ h => lv_aload_n K.1.1 K.1.2.1 d rfl (lv_at hl 1 rfl) h
theorem lw_j (K : LX G A b L xs cells slots p s m args meth c) {pc tgt : Nat} {off : Int} (d : decode cL_law pc = .ok (.if_icmp .eq off, 3)) (ht : (pc : Int) + off = (tgt : Int)) : ∀ H locs (v : Int32) rest, VL p l e s m args below meth c Q cells slots ls H locs tgt rest → VL p l e s m args below meth c Q cells slots ls H locs pc (.int v :: .int v :: rest) := fun _ _ _ _ h => lv_icmp_eq K.1.1 K.1.2.1 d ht (fun _ => h) (fun g => absurd rfl g)
theorem lw_g (K : LX G A b L xs cells slots p s m args meth c) {pc tgt : Nat} {off : Int} (d : decode cL_law pc = .ok (.goto off, 3)) (ht : (pc : Int) + off = (tgt : Int)) : ∀ H locs rest, VL p l e s m args below meth c Q cells slots ls H locs tgt rest → VL p l e s m args below meth c Q cells slots ls H locs pc rest := fun _ _ _ h => lv_goto K.1.1 K.1.2.1 d ht h
set_option maxRecDepth 100000 in
theorem lw_k0 (K : LX G A b L xs cells slots p s m args meth c) (hl : lv_has ls 4 (lws G b i)) (hi : i + 5 ≤ L) {σ : SS} {H : Heap} {locs : List Loc} (hR : Rel σ) (hP : va_P G.1 vwCl (wsOf G σ) H) (hS : va_S A s.heap H locs) (kk : ∀ (σ' : SS) (H1 : Heap) (locs1 : List Loc), Rel σ' → va_P G.1 vwCl (wsOf G σ') H1 → va_S A s.heap H1 locs1 → W p l e room_1 s m args below meth c H1 locs1 cells slots Q (F0 m 783 ls [])) : W p l e room_1 s m args below meth c H locs cells slots Q (F0 m 124 ls []) := by
  have hG : GeoOK G := K.1.2.2.2.2.2.2.2.2
  have hV : VL p l e s m args below meth c Q cells slots ls H locs 124 [] :=
    ca_eq (pc := 124) (p1 := 143) (p2 := 165) (tgt := 783) (As := [ai (xs (i + 1)), ai (bz (decide (xs (i + 2) ≠ 0)))]) ⟨trivial, trivial, trivial⟩ rfl (lw_a1 K hl dL_law_124) (Pu_cons (lw_sc K hl hi 1 (by decide) rfl dL_law_125 dL_law_126 dL_law_127 dL_law_128 dL_law_129) (Pu_cons (lw_bo K hl hi 2 (by decide) rfl dL_law_130 dL_law_131 dL_law_132 dL_law_133 dL_law_134 dL_law_135 dL_law_138 dL_law_139 dL_law_142) Pu_nil)) (lw_cal K hl cls4 (ct_X5_body hG l) km_X5_body kv_X5_body ke_X5_body kl_13 (prs_0 (by decide)) (by decide) (by decide) dL_law_143) (lw_a2 K hl dL_law_146) (Pu_cons (lw_sc K hl hi 1 (by decide) rfl dL_law_147 dL_law_148 dL_law_149 dL_law_150 dL_law_151) (Pu_cons (lw_bo K hl hi 2 (by decide) rfl dL_law_152 dL_law_153 dL_law_154 dL_law_155 dL_law_156 dL_law_157 dL_law_160 dL_law_161 dL_law_164) Pu_nil)) (lw_cal K hl cls5 (ct_X6_body hG l) km_X6_body kv_X6_body ke_X6_body kl_17 (prs_0 (by decide)) (by decide) (by decide) dL_law_165) (lw_j K dL_law_168 rfl) (ag_body hR (xs (i + 1)) (bz (decide (xs (i + 2) ≠ 0))) (bz_01 _)) hP hS kk
  exact hV
set_option maxRecDepth 100000 in
theorem lw_k1 (K : LX G A b L xs cells slots p s m args meth c) (hl : lv_has ls 4 (lws G b i)) (hi : i + 5 ≤ L) {σ : SS} {H : Heap} {locs : List Loc} (hR : Rel σ) (hP : va_P G.1 vwCl (wsOf G σ) H) (hS : va_S A s.heap H locs) (kk : ∀ (σ' : SS) (H1 : Heap) (locs1 : List Loc), Rel σ' → va_P G.1 vwCl (wsOf G σ') H1 → va_S A s.heap H1 locs1 → W p l e room_1 s m args below meth c H1 locs1 cells slots Q (F0 m 783 ls [])) : W p l e room_1 s m args below meth c H locs cells slots Q (F0 m 173 ls []) := by
  have hG : GeoOK G := K.1.2.2.2.2.2.2.2.2
  have hV : VL p l e s m args below meth c Q cells slots ls H locs 173 [] :=
    ca_eq (pc := 173) (p1 := 194) (p2 := 218) (tgt := 783) (As := [ai (xs (i + 1)), ai (xs (i + 2)), ai (xs (i + 3)), ai (xs (i + 4))]) ⟨trivial, trivial, trivial, trivial, trivial⟩ rfl (lw_a1 K hl dL_law_173) (Pu_cons (lw_sc K hl hi 1 (by decide) rfl dL_law_174 dL_law_175 dL_law_176 dL_law_177 dL_law_178) (Pu_cons (lw_sc K hl hi 2 (by decide) rfl dL_law_179 dL_law_180 dL_law_181 dL_law_182 dL_law_183) (Pu_cons (lw_sc K hl hi 3 (by decide) rfl dL_law_184 dL_law_185 dL_law_186 dL_law_187 dL_law_188) (Pu_cons (lw_sc K hl hi 4 (by decide) rfl dL_law_189 dL_law_190 dL_law_191 dL_law_192 dL_law_193) Pu_nil)))) (lw_cal K hl cls4 (ct_X5_place hG l) km_X5_place kv_X5_place ke_X5_place kl_18 (prs_0 (by decide)) (by decide) (by decide) dL_law_194) (lw_a2 K hl dL_law_197) (Pu_cons (lw_sc K hl hi 1 (by decide) rfl dL_law_198 dL_law_199 dL_law_200 dL_law_201 dL_law_202) (Pu_cons (lw_sc K hl hi 2 (by decide) rfl dL_law_203 dL_law_204 dL_law_205 dL_law_206 dL_law_207) (Pu_cons (lw_sc K hl hi 3 (by decide) rfl dL_law_208 dL_law_209 dL_law_210 dL_law_211 dL_law_212) (Pu_cons (lw_sc K hl hi 4 (by decide) rfl dL_law_213 dL_law_214 dL_law_215 dL_law_216 dL_law_217) Pu_nil)))) (lw_cal K hl cls5 (ct_X6_place hG l) km_X6_place kv_X6_place ke_X6_place kl_22 (prs_0 (by decide)) (by decide) (by decide) dL_law_218) (lw_j K dL_law_221 rfl) (ag_place hR (xs (i + 1)) (xs (i + 2)) (xs (i + 3)) (xs (i + 4))) hP hS kk
  exact hV
set_option maxRecDepth 100000 in
theorem lw_k2 (K : LX G A b L xs cells slots p s m args meth c) (hl : lv_has ls 4 (lws G b i)) (hi : i + 5 ≤ L) {σ : SS} {H : Heap} {locs : List Loc} (hR : Rel σ) (hP : va_P G.1 vwCl (wsOf G σ) H) (hS : va_S A s.heap H locs) (kk : ∀ (σ' : SS) (H1 : Heap) (locs1 : List Loc), Rel σ' → va_P G.1 vwCl (wsOf G σ') H1 → va_S A s.heap H1 locs1 → W p l e room_1 s m args below meth c H1 locs1 cells slots Q (F0 m 783 ls [])) : W p l e room_1 s m args below meth c H locs cells slots Q (F0 m 226 ls []) := by
  have hG : GeoOK G := K.1.2.2.2.2.2.2.2.2
  have hV : VL p l e s m args below meth c Q cells slots ls H locs 226 [] :=
    ca_eq (pc := 226) (p1 := 237) (p2 := 251) (tgt := 783) (As := [ai (xs (i + 1)), ai (xs (i + 2))]) ⟨trivial, trivial, trivial⟩ rfl (lw_a1 K hl dL_law_226) (Pu_cons (lw_sc K hl hi 1 (by decide) rfl dL_law_227 dL_law_228 dL_law_229 dL_law_230 dL_law_231) (Pu_cons (lw_sc K hl hi 2 (by decide) rfl dL_law_232 dL_law_233 dL_law_234 dL_law_235 dL_law_236) Pu_nil)) (lw_cal K hl cls4 (ct_X5_tilt hG l) km_X5_tilt kv_X5_tilt ke_X5_tilt kl_23 (prs_0 (by decide)) (by decide) (by decide) dL_law_237) (lw_a2 K hl dL_law_240) (Pu_cons (lw_sc K hl hi 1 (by decide) rfl dL_law_241 dL_law_242 dL_law_243 dL_law_244 dL_law_245) (Pu_cons (lw_sc K hl hi 2 (by decide) rfl dL_law_246 dL_law_247 dL_law_248 dL_law_249 dL_law_250) Pu_nil)) (lw_cal K hl cls5 (ct_X6_tilt hG l) km_X6_tilt kv_X6_tilt ke_X6_tilt kl_27 (prs_0 (by decide)) (by decide) (by decide) dL_law_251) (lw_j K dL_law_254 rfl) (ag_tilt hR (xs (i + 1)) (xs (i + 2))) hP hS kk
  exact hV
set_option maxRecDepth 100000 in
theorem lw_k3 (K : LX G A b L xs cells slots p s m args meth c) (hl : lv_has ls 4 (lws G b i)) (hi : i + 5 ≤ L) {σ : SS} {H : Heap} {locs : List Loc} (hR : Rel σ) (hP : va_P G.1 vwCl (wsOf G σ) H) (hS : va_S A s.heap H locs) (kk : ∀ (σ' : SS) (H1 : Heap) (locs1 : List Loc), Rel σ' → va_P G.1 vwCl (wsOf G σ') H1 → va_S A s.heap H1 locs1 → W p l e room_1 s m args below meth c H1 locs1 cells slots Q (F0 m 783 ls [])) : W p l e room_1 s m args below meth c H locs cells slots Q (F0 m 259 ls []) := by
  have hG : GeoOK G := K.1.2.2.2.2.2.2.2.2
  have hV : VL p l e s m args below meth c Q cells slots ls H locs 259 [] :=
    ca_eq (pc := 259) (p1 := 270) (p2 := 284) (tgt := 783) (As := [ai (xs (i + 1)), ai (xs (i + 2))]) ⟨trivial, trivial, trivial⟩ rfl (lw_a1 K hl dL_law_259) (Pu_cons (lw_sc K hl hi 1 (by decide) rfl dL_law_260 dL_law_261 dL_law_262 dL_law_263 dL_law_264) (Pu_cons (lw_sc K hl hi 2 (by decide) rfl dL_law_265 dL_law_266 dL_law_267 dL_law_268 dL_law_269) Pu_nil)) (lw_cal K hl cls4 (ct_X5_mass hG l) km_X5_mass kv_X5_mass ke_X5_mass kl_28 (prs_0 (by decide)) (by decide) (by decide) dL_law_270) (lw_a2 K hl dL_law_273) (Pu_cons (lw_sc K hl hi 1 (by decide) rfl dL_law_274 dL_law_275 dL_law_276 dL_law_277 dL_law_278) (Pu_cons (lw_sc K hl hi 2 (by decide) rfl dL_law_279 dL_law_280 dL_law_281 dL_law_282 dL_law_283) Pu_nil)) (lw_cal K hl cls5 (ct_X6_mass hG l) km_X6_mass kv_X6_mass ke_X6_mass kl_31 (prs_0 (by decide)) (by decide) (by decide) dL_law_284) (lw_j K dL_law_287 rfl) (ag_mass hR (xs (i + 1)) (xs (i + 2))) hP hS kk
  exact hV
set_option maxRecDepth 100000 in
theorem lw_k4 (K : LX G A b L xs cells slots p s m args meth c) (hl : lv_has ls 4 (lws G b i)) (hi : i + 5 ≤ L) {σ : SS} {H : Heap} {locs : List Loc} (hR : Rel σ) (hP : va_P G.1 vwCl (wsOf G σ) H) (hS : va_S A s.heap H locs) (kk : ∀ (σ' : SS) (H1 : Heap) (locs1 : List Loc), Rel σ' → va_P G.1 vwCl (wsOf G σ') H1 → va_S A s.heap H1 locs1 → W p l e room_1 s m args below meth c H1 locs1 cells slots Q (F0 m 783 ls [])) : W p l e room_1 s m args below meth c H locs cells slots Q (F0 m 292 ls []) := by
  have hG : GeoOK G := K.1.2.2.2.2.2.2.2.2
  have hV : VL p l e s m args below meth c Q cells slots ls H locs 292 [] :=
    ca_eq (pc := 292) (p1 := 313) (p2 := 337) (tgt := 783) (As := [ai (xs (i + 1)), ai (xs (i + 2)), ai (xs (i + 3)), ai (xs (i + 4))]) ⟨trivial, trivial, trivial, trivial, trivial⟩ rfl (lw_a1 K hl dL_law_292) (Pu_cons (lw_sc K hl hi 1 (by decide) rfl dL_law_293 dL_law_294 dL_law_295 dL_law_296 dL_law_297) (Pu_cons (lw_sc K hl hi 2 (by decide) rfl dL_law_298 dL_law_299 dL_law_300 dL_law_301 dL_law_302) (Pu_cons (lw_sc K hl hi 3 (by decide) rfl dL_law_303 dL_law_304 dL_law_305 dL_law_306 dL_law_307) (Pu_cons (lw_sc K hl hi 4 (by decide) rfl dL_law_308 dL_law_309 dL_law_310 dL_law_311 dL_law_312) Pu_nil)))) (lw_cal K hl cls4 (ct_X5_centre hG l) km_X5_centre kv_X5_centre ke_X5_centre kl_32 (prs_0 (by decide)) (by decide) (by decide) dL_law_313) (lw_a2 K hl dL_law_316) (Pu_cons (lw_sc K hl hi 1 (by decide) rfl dL_law_317 dL_law_318 dL_law_319 dL_law_320 dL_law_321) (Pu_cons (lw_sc K hl hi 2 (by decide) rfl dL_law_322 dL_law_323 dL_law_324 dL_law_325 dL_law_326) (Pu_cons (lw_sc K hl hi 3 (by decide) rfl dL_law_327 dL_law_328 dL_law_329 dL_law_330 dL_law_331) (Pu_cons (lw_sc K hl hi 4 (by decide) rfl dL_law_332 dL_law_333 dL_law_334 dL_law_335 dL_law_336) Pu_nil)))) (lw_cal K hl cls5 (ct_X6_centre hG l) km_X6_centre kv_X6_centre ke_X6_centre kl_35 (prs_0 (by decide)) (by decide) (by decide) dL_law_337) (lw_j K dL_law_340 rfl) (ag_centre hR (xs (i + 1)) (xs (i + 2)) (xs (i + 3)) (xs (i + 4))) hP hS kk
  exact hV
set_option maxRecDepth 100000 in
theorem lw_k5 (K : LX G A b L xs cells slots p s m args meth c) (hl : lv_has ls 4 (lws G b i)) (hi : i + 5 ≤ L) {σ : SS} {H : Heap} {locs : List Loc} (hR : Rel σ) (hP : va_P G.1 vwCl (wsOf G σ) H) (hS : va_S A s.heap H locs) (kk : ∀ (σ' : SS) (H1 : Heap) (locs1 : List Loc), Rel σ' → va_P G.1 vwCl (wsOf G σ') H1 → va_S A s.heap H1 locs1 → W p l e room_1 s m args below meth c H1 locs1 cells slots Q (F0 m 783 ls [])) : W p l e room_1 s m args below meth c H locs cells slots Q (F0 m 345 ls []) := by
  have hG : GeoOK G := K.1.2.2.2.2.2.2.2.2
  have hV : VL p l e s m args below meth c Q cells slots ls H locs 345 [] :=
    ca_eq (pc := 345) (p1 := 366) (p2 := 390) (tgt := 783) (As := [ai (xs (i + 1)), ai (xs (i + 2)), ai (xs (i + 3)), ai (xs (i + 4))]) ⟨trivial, trivial, trivial, trivial, trivial⟩ rfl (lw_a1 K hl dL_law_345) (Pu_cons (lw_sc K hl hi 1 (by decide) rfl dL_law_346 dL_law_347 dL_law_348 dL_law_349 dL_law_350) (Pu_cons (lw_sc K hl hi 2 (by decide) rfl dL_law_351 dL_law_352 dL_law_353 dL_law_354 dL_law_355) (Pu_cons (lw_sc K hl hi 3 (by decide) rfl dL_law_356 dL_law_357 dL_law_358 dL_law_359 dL_law_360) (Pu_cons (lw_sc K hl hi 4 (by decide) rfl dL_law_361 dL_law_362 dL_law_363 dL_law_364 dL_law_365) Pu_nil)))) (lw_cal K hl cls4 (ct_X5_inertia hG l) km_X5_inertia kv_X5_inertia ke_X5_inertia kl_36 (prs_0 (by decide)) (by decide) (by decide) dL_law_366) (lw_a2 K hl dL_law_369) (Pu_cons (lw_sc K hl hi 1 (by decide) rfl dL_law_370 dL_law_371 dL_law_372 dL_law_373 dL_law_374) (Pu_cons (lw_sc K hl hi 2 (by decide) rfl dL_law_375 dL_law_376 dL_law_377 dL_law_378 dL_law_379) (Pu_cons (lw_sc K hl hi 3 (by decide) rfl dL_law_380 dL_law_381 dL_law_382 dL_law_383 dL_law_384) (Pu_cons (lw_sc K hl hi 4 (by decide) rfl dL_law_385 dL_law_386 dL_law_387 dL_law_388 dL_law_389) Pu_nil)))) (lw_cal K hl cls5 (ct_X6_inertia hG l) km_X6_inertia kv_X6_inertia ke_X6_inertia kl_39 (prs_0 (by decide)) (by decide) (by decide) dL_law_390) (lw_j K dL_law_393 rfl) (ag_inertia hR (xs (i + 1)) (xs (i + 2)) (xs (i + 3)) (xs (i + 4))) hP hS kk
  exact hV
set_option maxRecDepth 100000 in
theorem lw_k6 (K : LX G A b L xs cells slots p s m args meth c) (hl : lv_has ls 4 (lws G b i)) (hi : i + 5 ≤ L) {σ : SS} {H : Heap} {locs : List Loc} (hR : Rel σ) (hP : va_P G.1 vwCl (wsOf G σ) H) (hS : va_S A s.heap H locs) (kk : ∀ (σ' : SS) (H1 : Heap) (locs1 : List Loc), Rel σ' → va_P G.1 vwCl (wsOf G σ') H1 → va_S A s.heap H1 locs1 → W p l e room_1 s m args below meth c H1 locs1 cells slots Q (F0 m 783 ls [])) : W p l e room_1 s m args below meth c H locs cells slots Q (F0 m 398 ls []) := by
  have hG : GeoOK G := K.1.2.2.2.2.2.2.2.2
  have hV : VL p l e s m args below meth c Q cells slots ls H locs 398 [] :=
    ca_eq (pc := 398) (p1 := 419) (p2 := 443) (tgt := 783) (As := [ai (xs (i + 1)), ai (xs (i + 2)), ai (xs (i + 3)), ai (xs (i + 4))]) ⟨trivial, trivial, trivial, trivial, trivial⟩ rfl (lw_a1 K hl dL_law_398) (Pu_cons (lw_sc K hl hi 1 (by decide) rfl dL_law_399 dL_law_400 dL_law_401 dL_law_402 dL_law_403) (Pu_cons (lw_sc K hl hi 2 (by decide) rfl dL_law_404 dL_law_405 dL_law_406 dL_law_407 dL_law_408) (Pu_cons (lw_sc K hl hi 3 (by decide) rfl dL_law_409 dL_law_410 dL_law_411 dL_law_412 dL_law_413) (Pu_cons (lw_sc K hl hi 4 (by decide) rfl dL_law_414 dL_law_415 dL_law_416 dL_law_417 dL_law_418) Pu_nil)))) (lw_cal K hl cls4 (ct_X5_products hG l) km_X5_products kv_X5_products ke_X5_products kl_40 (prs_0 (by decide)) (by decide) (by decide) dL_law_419) (lw_a2 K hl dL_law_422) (Pu_cons (lw_sc K hl hi 1 (by decide) rfl dL_law_423 dL_law_424 dL_law_425 dL_law_426 dL_law_427) (Pu_cons (lw_sc K hl hi 2 (by decide) rfl dL_law_428 dL_law_429 dL_law_430 dL_law_431 dL_law_432) (Pu_cons (lw_sc K hl hi 3 (by decide) rfl dL_law_433 dL_law_434 dL_law_435 dL_law_436 dL_law_437) (Pu_cons (lw_sc K hl hi 4 (by decide) rfl dL_law_438 dL_law_439 dL_law_440 dL_law_441 dL_law_442) Pu_nil)))) (lw_cal K hl cls5 (ct_X6_products hG l) km_X6_products kv_X6_products ke_X6_products kl_43 (prs_0 (by decide)) (by decide) (by decide) dL_law_443) (lw_j K dL_law_446 rfl) (ag_products hR (xs (i + 1)) (xs (i + 2)) (xs (i + 3)) (xs (i + 4))) hP hS kk
  exact hV
set_option maxRecDepth 100000 in
theorem lw_k7 (K : LX G A b L xs cells slots p s m args meth c) (hl : lv_has ls 4 (lws G b i)) (hi : i + 5 ≤ L) {σ : SS} {H : Heap} {locs : List Loc} (hR : Rel σ) (hP : va_P G.1 vwCl (wsOf G σ) H) (hS : va_S A s.heap H locs) (kk : ∀ (σ' : SS) (H1 : Heap) (locs1 : List Loc), Rel σ' → va_P G.1 vwCl (wsOf G σ') H1 → va_S A s.heap H1 locs1 → W p l e room_1 s m args below meth c H1 locs1 cells slots Q (F0 m 783 ls [])) : W p l e room_1 s m args below meth c H locs cells slots Q (F0 m 451 ls []) := by
  have hG : GeoOK G := K.1.2.2.2.2.2.2.2.2
  have hV : VL p l e s m args below meth c Q cells slots ls H locs 451 [] :=
    ca_eq (pc := 451) (p1 := 472) (p2 := 496) (tgt := 783) (As := [ai (xs (i + 1)), ai (xs (i + 2)), ai (xs (i + 3)), ai (xs (i + 4))]) ⟨trivial, trivial, trivial, trivial, trivial⟩ rfl (lw_a1 K hl dL_law_451) (Pu_cons (lw_sc K hl hi 1 (by decide) rfl dL_law_452 dL_law_453 dL_law_454 dL_law_455 dL_law_456) (Pu_cons (lw_sc K hl hi 2 (by decide) rfl dL_law_457 dL_law_458 dL_law_459 dL_law_460 dL_law_461) (Pu_cons (lw_sc K hl hi 3 (by decide) rfl dL_law_462 dL_law_463 dL_law_464 dL_law_465 dL_law_466) (Pu_cons (lw_sc K hl hi 4 (by decide) rfl dL_law_467 dL_law_468 dL_law_469 dL_law_470 dL_law_471) Pu_nil)))) (lw_cal K hl cls4 (ct_X5_joint hG l) km_X5_joint kv_X5_joint ke_X5_joint kl_44 (prs_0 (by decide)) (by decide) (by decide) dL_law_472) (lw_a2 K hl dL_law_475) (Pu_cons (lw_sc K hl hi 1 (by decide) rfl dL_law_476 dL_law_477 dL_law_478 dL_law_479 dL_law_480) (Pu_cons (lw_sc K hl hi 2 (by decide) rfl dL_law_481 dL_law_482 dL_law_483 dL_law_484 dL_law_485) (Pu_cons (lw_sc K hl hi 3 (by decide) rfl dL_law_486 dL_law_487 dL_law_488 dL_law_489 dL_law_490) (Pu_cons (lw_sc K hl hi 4 (by decide) rfl dL_law_491 dL_law_492 dL_law_493 dL_law_494 dL_law_495) Pu_nil)))) (lw_cal K hl cls5 (ct_X6_joint hG l) km_X6_joint kv_X6_joint ke_X6_joint kl_47 (prs_0 (by decide)) (by decide) (by decide) dL_law_496) (lw_j K dL_law_499 rfl) (ag_joint hR (xs (i + 1)) (xs (i + 2)) (xs (i + 3)) (xs (i + 4))) hP hS kk
  exact hV
set_option maxRecDepth 100000 in
theorem lw_k8 (K : LX G A b L xs cells slots p s m args meth c) (hl : lv_has ls 4 (lws G b i)) (hi : i + 5 ≤ L) {σ : SS} {H : Heap} {locs : List Loc} (hR : Rel σ) (hP : va_P G.1 vwCl (wsOf G σ) H) (hS : va_S A s.heap H locs) (kk : ∀ (σ' : SS) (H1 : Heap) (locs1 : List Loc), Rel σ' → va_P G.1 vwCl (wsOf G σ') H1 → va_S A s.heap H1 locs1 → W p l e room_1 s m args below meth c H1 locs1 cells slots Q (F0 m 783 ls [])) : W p l e room_1 s m args below meth c H locs cells slots Q (F0 m 504 ls []) := by
  have hG : GeoOK G := K.1.2.2.2.2.2.2.2.2
  have hV : VL p l e s m args below meth c Q cells slots ls H locs 504 [] :=
    ca_eq (pc := 504) (p1 := 515) (p2 := 529) (tgt := 783) (As := [ai (xs (i + 1)), ai (xs (i + 2))]) ⟨trivial, trivial, trivial⟩ rfl (lw_a1 K hl dL_law_504) (Pu_cons (lw_sc K hl hi 1 (by decide) rfl dL_law_505 dL_law_506 dL_law_507 dL_law_508 dL_law_509) (Pu_cons (lw_sc K hl hi 2 (by decide) rfl dL_law_510 dL_law_511 dL_law_512 dL_law_513 dL_law_514) Pu_nil)) (lw_cal K hl cls4 (ct_X5_torque hG l) km_X5_torque kv_X5_torque ke_X5_torque kl_48 (prs_0 (by decide)) (by decide) (by decide) dL_law_515) (lw_a2 K hl dL_law_518) (Pu_cons (lw_sc K hl hi 1 (by decide) rfl dL_law_519 dL_law_520 dL_law_521 dL_law_522 dL_law_523) (Pu_cons (lw_sc K hl hi 2 (by decide) rfl dL_law_524 dL_law_525 dL_law_526 dL_law_527 dL_law_528) Pu_nil)) (lw_cal K hl cls5 (ct_X6_torque hG l) km_X6_torque kv_X6_torque ke_X6_torque kl_51 (prs_0 (by decide)) (by decide) (by decide) dL_law_529) (lw_j K dL_law_532 rfl) (ag_torque hR (xs (i + 1)) (xs (i + 2))) hP hS kk
  exact hV
set_option maxRecDepth 100000 in
theorem lw_k9 (K : LX G A b L xs cells slots p s m args meth c) (hl : lv_has ls 4 (lws G b i)) (hi : i + 5 ≤ L) {σ : SS} {H : Heap} {locs : List Loc} (hR : Rel σ) (hP : va_P G.1 vwCl (wsOf G σ) H) (hS : va_S A s.heap H locs) (kk : ∀ (σ' : SS) (H1 : Heap) (locs1 : List Loc), Rel σ' → va_P G.1 vwCl (wsOf G σ') H1 → va_S A s.heap H1 locs1 → W p l e room_1 s m args below meth c H1 locs1 cells slots Q (F0 m 783 ls [])) : W p l e room_1 s m args below meth c H locs cells slots Q (F0 m 537 ls []) := by
  have hG : GeoOK G := K.1.2.2.2.2.2.2.2.2
  have hV : VL p l e s m args below meth c Q cells slots ls H locs 537 [] :=
    ca_no (pc := 537) (p1 := 553) (p2 := 572) (tgt := 783) (As := [ai (xs (i + 1)), ai (xs (i + 2)), ai (xs (i + 3))]) ⟨trivial, trivial, trivial, trivial⟩ rfl (lw_a1 K hl dL_law_537) (Pu_cons (lw_sc K hl hi 1 (by decide) rfl dL_law_538 dL_law_539 dL_law_540 dL_law_541 dL_law_542) (Pu_cons (lw_sc K hl hi 2 (by decide) rfl dL_law_543 dL_law_544 dL_law_545 dL_law_546 dL_law_547) (Pu_cons (lw_sc K hl hi 3 (by decide) rfl dL_law_548 dL_law_549 dL_law_550 dL_law_551 dL_law_552) Pu_nil))) (lw_cal K hl cls4 (ct_X5_gravity hG l) km_X5_gravity kv_X5_gravity ke_X5_gravity kl_52 (prs_0 (by decide)) (by decide) (by decide) dL_law_553) (lw_a2 K hl dL_law_556) (Pu_cons (lw_sc K hl hi 1 (by decide) rfl dL_law_557 dL_law_558 dL_law_559 dL_law_560 dL_law_561) (Pu_cons (lw_sc K hl hi 2 (by decide) rfl dL_law_562 dL_law_563 dL_law_564 dL_law_565 dL_law_566) (Pu_cons (lw_sc K hl hi 3 (by decide) rfl dL_law_567 dL_law_568 dL_law_569 dL_law_570 dL_law_571) Pu_nil))) (lw_cal K hl cls5 (ct_X6_gravity hG l) km_X6_gravity kv_X6_gravity ke_X6_gravity kl_56 (prs_0 (by decide)) (by decide) (by decide) dL_law_572) (lw_g K dL_law_575 rfl) (ag_gravity hR (xs (i + 1)) (xs (i + 2)) (xs (i + 3))) hP hS kk
  exact hV
set_option maxRecDepth 100000 in
theorem lw_k10 (K : LX G A b L xs cells slots p s m args meth c) (hl : lv_has ls 4 (lws G b i)) (hi : i + 5 ≤ L) {σ : SS} {H : Heap} {locs : List Loc} (hR : Rel σ) (hP : va_P G.1 vwCl (wsOf G σ) H) (hS : va_S A s.heap H locs) (kk : ∀ (σ' : SS) (H1 : Heap) (locs1 : List Loc), Rel σ' → va_P G.1 vwCl (wsOf G σ') H1 → va_S A s.heap H1 locs1 → W p l e room_1 s m args below meth c H1 locs1 cells slots Q (F0 m 783 ls [])) : W p l e room_1 s m args below meth c H locs cells slots Q (F0 m 578 ls []) := by
  have hG : GeoOK G := K.1.2.2.2.2.2.2.2.2
  have hV : VL p l e s m args below meth c Q cells slots ls H locs 578 [] :=
    ca_eq (pc := 578) (p1 := 584) (p2 := 593) (tgt := 783) (As := [ai (xs (i + 1))]) ⟨trivial, trivial⟩ rfl (lw_a1 K hl dL_law_578) (Pu_cons (lw_sc K hl hi 1 (by decide) rfl dL_law_579 dL_law_580 dL_law_581 dL_law_582 dL_law_583) Pu_nil) (lw_cal K hl cls4 (ct_X5_needs hG l) km_X5_needs kv_X5_needs ke_X5_needs kl_57 (prs_0 (by decide)) (by decide) (by decide) dL_law_584) (lw_a2 K hl dL_law_587) (Pu_cons (lw_sc K hl hi 1 (by decide) rfl dL_law_588 dL_law_589 dL_law_590 dL_law_591 dL_law_592) Pu_nil) (lw_cal K hl cls5 (ct_X6_needs hG l) km_X6_needs kv_X6_needs ke_X6_needs kl_61 (prs_0 (by decide)) (by decide) (by decide) dL_law_593) (lw_j K dL_law_596 rfl) (ag_needs hR (xs (i + 1))) hP hS kk
  exact hV
set_option maxRecDepth 100000 in
theorem lw_k11 (K : LX G A b L xs cells slots p s m args meth c) (hl : lv_has ls 4 (lws G b i)) (hi : i + 5 ≤ L) {σ : SS} {H : Heap} {locs : List Loc} (hR : Rel σ) (hP : va_P G.1 vwCl (wsOf G σ) H) (hS : va_S A s.heap H locs) (kk : ∀ (σ' : SS) (H1 : Heap) (locs1 : List Loc), Rel σ' → va_P G.1 vwCl (wsOf G σ') H1 → va_S A s.heap H1 locs1 → W p l e room_1 s m args below meth c H1 locs1 cells slots Q (F0 m 783 ls [])) : W p l e room_1 s m args below meth c H locs cells slots Q (F0 m 601 ls []) := by
  have hG : GeoOK G := K.1.2.2.2.2.2.2.2.2
  have hV : VL p l e s m args below meth c Q cells slots ls H locs 601 [] :=
    ca_eq (pc := 601) (p1 := 612) (p2 := 626) (tgt := 783) (As := [ai (xs (i + 1)), ai (xs (i + 2))]) ⟨trivial, trivial, trivial⟩ rfl (lw_a1 K hl dL_law_601) (Pu_cons (lw_sc K hl hi 1 (by decide) rfl dL_law_602 dL_law_603 dL_law_604 dL_law_605 dL_law_606) (Pu_cons (lw_sc K hl hi 2 (by decide) rfl dL_law_607 dL_law_608 dL_law_609 dL_law_610 dL_law_611) Pu_nil)) (lw_cal K hl cls4 (ct_X5_matrix hG l) km_X5_matrix kv_X5_matrix ke_X5_matrix kl_62 (prs_0 (by decide)) (by decide) (by decide) dL_law_612) (lw_a2 K hl dL_law_615) (Pu_cons (lw_sc K hl hi 1 (by decide) rfl dL_law_616 dL_law_617 dL_law_618 dL_law_619 dL_law_620) (Pu_cons (lw_sc K hl hi 2 (by decide) rfl dL_law_621 dL_law_622 dL_law_623 dL_law_624 dL_law_625) Pu_nil)) (lw_cal K hl cls5 (ct_X6_matrix hG l) km_X6_matrix kv_X6_matrix ke_X6_matrix kl_66 (prs_0 (by decide)) (by decide) (by decide) dL_law_626) (lw_j K dL_law_629 rfl) (ag_matrix hR (xs (i + 1)) (xs (i + 2))) hP hS kk
  exact hV
set_option maxRecDepth 100000 in
theorem lw_k12 (K : LX G A b L xs cells slots p s m args meth c) (hl : lv_has ls 4 (lws G b i)) (hi : i + 5 ≤ L) {σ : SS} {H : Heap} {locs : List Loc} (hR : Rel σ) (hP : va_P G.1 vwCl (wsOf G σ) H) (hS : va_S A s.heap H locs) (kk : ∀ (σ' : SS) (H1 : Heap) (locs1 : List Loc), Rel σ' → va_P G.1 vwCl (wsOf G σ') H1 → va_S A s.heap H1 locs1 → W p l e room_1 s m args below meth c H1 locs1 cells slots Q (F0 m 783 ls [])) : W p l e room_1 s m args below meth c H locs cells slots Q (F0 m 634 ls []) := by
  have hG : GeoOK G := K.1.2.2.2.2.2.2.2.2
  have hV : VL p l e s m args below meth c Q cells slots ls H locs 634 [] :=
    ca_eq (pc := 634) (p1 := 640) (p2 := 649) (tgt := 783) (As := [ai (xs (i + 1))]) ⟨trivial, trivial⟩ rfl (lw_a1 K hl dL_law_634) (Pu_cons (lw_sc K hl hi 1 (by decide) rfl dL_law_635 dL_law_636 dL_law_637 dL_law_638 dL_law_639) Pu_nil) (lw_cal K hl cls4 (ct_X5_bias hG l) km_X5_bias kv_X5_bias ke_X5_bias kl_67 (prs_0 (by decide)) (by decide) (by decide) dL_law_640) (lw_a2 K hl dL_law_643) (Pu_cons (lw_sc K hl hi 1 (by decide) rfl dL_law_644 dL_law_645 dL_law_646 dL_law_647 dL_law_648) Pu_nil) (lw_cal K hl cls5 (ct_X6_bias hG l) km_X6_bias kv_X6_bias ke_X6_bias kl_70 (prs_0 (by decide)) (by decide) (by decide) dL_law_649) (lw_j K dL_law_652 rfl) (ag_bias hR (xs (i + 1))) hP hS kk
  exact hV
set_option maxRecDepth 100000 in
theorem lw_k13 (K : LX G A b L xs cells slots p s m args meth c) (hl : lv_has ls 4 (lws G b i)) (hi : i + 5 ≤ L) {σ : SS} {H : Heap} {locs : List Loc} (hR : Rel σ) (hP : va_P G.1 vwCl (wsOf G σ) H) (hS : va_S A s.heap H locs) (kk : ∀ (σ' : SS) (H1 : Heap) (locs1 : List Loc), Rel σ' → va_P G.1 vwCl (wsOf G σ') H1 → va_S A s.heap H1 locs1 → W p l e room_1 s m args below meth c H1 locs1 cells slots Q (F0 m 783 ls [])) : W p l e room_1 s m args below meth c H locs cells slots Q (F0 m 657 ls []) := by
  have hG : GeoOK G := K.1.2.2.2.2.2.2.2.2
  have hV : VL p l e s m args below meth c Q cells slots ls H locs 657 [] :=
    ca_eq (pc := 657) (p1 := 658) (p2 := 662) (tgt := 783) (As := []) trivial rfl (lw_a1 K hl dL_law_657) Pu_nil (lw_cal K hl cls4 (ct_X5_forward hG l) km_X5_forward kv_X5_forward ke_X5_forward kl_71 (prs_0 (by decide)) (by decide) (by decide) dL_law_658) (lw_a2 K hl dL_law_661) Pu_nil (lw_cal K hl cls5 (ct_X6_forward hG l) km_X6_forward kv_X6_forward ke_X6_forward kl_75 (prs_0 (by decide)) (by decide) (by decide) dL_law_662) (lw_j K dL_law_665 rfl) (ag_forward hR ) hP hS kk
  exact hV
set_option maxRecDepth 100000 in
theorem lw_k14 (K : LX G A b L xs cells slots p s m args meth c) (hl : lv_has ls 4 (lws G b i)) (hi : i + 5 ≤ L) {σ : SS} {H : Heap} {locs : List Loc} (hR : Rel σ) (hP : va_P G.1 vwCl (wsOf G σ) H) (hS : va_S A s.heap H locs) (kk : ∀ (σ' : SS) (H1 : Heap) (locs1 : List Loc), Rel σ' → va_P G.1 vwCl (wsOf G σ') H1 → va_S A s.heap H1 locs1 → W p l e room_1 s m args below meth c H1 locs1 cells slots Q (F0 m 783 ls [])) : W p l e room_1 s m args below meth c H locs cells slots Q (F0 m 670 ls []) := by
  have hG : GeoOK G := K.1.2.2.2.2.2.2.2.2
  have hV : VL p l e s m args below meth c Q cells slots ls H locs 670 [] :=
    ca_eq (pc := 670) (p1 := 676) (p2 := 685) (tgt := 783) (As := [ai (xs (i + 1))]) ⟨trivial, trivial⟩ rfl (lw_a1 K hl dL_law_670) (Pu_cons (lw_sc K hl hi 1 (by decide) rfl dL_law_671 dL_law_672 dL_law_673 dL_law_674 dL_law_675) Pu_nil) (lw_cal K hl cls4 (ct_X5_acceleration hG l) km_X5_acceleration kv_X5_acceleration ke_X5_acceleration kl_76 (prs_0 (by decide)) (by decide) (by decide) dL_law_676) (lw_a2 K hl dL_law_679) (Pu_cons (lw_sc K hl hi 1 (by decide) rfl dL_law_680 dL_law_681 dL_law_682 dL_law_683 dL_law_684) Pu_nil) (lw_cal K hl cls5 (ct_X6_acceleration hG l) km_X6_acceleration kv_X6_acceleration ke_X6_acceleration kl_79 (prs_0 (by decide)) (by decide) (by decide) dL_law_685) (lw_j K dL_law_688 rfl) (ag_acceleration hR (xs (i + 1))) hP hS kk
  exact hV
set_option maxRecDepth 100000 in
theorem lw_k15 (K : LX G A b L xs cells slots p s m args meth c) (hl : lv_has ls 4 (lws G b i)) (hi : i + 5 ≤ L) {σ : SS} {H : Heap} {locs : List Loc} (hR : Rel σ) (hP : va_P G.1 vwCl (wsOf G σ) H) (hS : va_S A s.heap H locs) (kk : ∀ (σ' : SS) (H1 : Heap) (locs1 : List Loc), Rel σ' → va_P G.1 vwCl (wsOf G σ') H1 → va_S A s.heap H1 locs1 → W p l e room_1 s m args below meth c H1 locs1 cells slots Q (F0 m 783 ls [])) : W p l e room_1 s m args below meth c H locs cells slots Q (F0 m 693 ls []) := by
  have hG : GeoOK G := K.1.2.2.2.2.2.2.2.2
  have hV : VL p l e s m args below meth c Q cells slots ls H locs 693 [] :=
    ca_eq (pc := 693) (p1 := 694) (p2 := 698) (tgt := 783) (As := []) trivial rfl (lw_a1 K hl dL_law_693) Pu_nil (lw_cal K hl cls4 (ct_X5_energy hG l) km_X5_energy kv_X5_energy ke_X5_energy kl_80 (prs_0 (by decide)) (by decide) (by decide) dL_law_694) (lw_a2 K hl dL_law_697) Pu_nil (lw_cal K hl cls5 (ct_X6_energy hG l) km_X6_energy kv_X6_energy ke_X6_energy kl_83 (prs_0 (by decide)) (by decide) (by decide) dL_law_698) (lw_j K dL_law_701 rfl) (ag_energy hR ) hP hS kk
  exact hV
set_option maxRecDepth 100000 in
theorem lw_k16 (K : LX G A b L xs cells slots p s m args meth c) (hl : lv_has ls 4 (lws G b i)) (hi : i + 5 ≤ L) {σ : SS} {H : Heap} {locs : List Loc} (hR : Rel σ) (hP : va_P G.1 vwCl (wsOf G σ) H) (hS : va_S A s.heap H locs) (kk : ∀ (σ' : SS) (H1 : Heap) (locs1 : List Loc), Rel σ' → va_P G.1 vwCl (wsOf G σ') H1 → va_S A s.heap H1 locs1 → W p l e room_1 s m args below meth c H1 locs1 cells slots Q (F0 m 783 ls [])) : W p l e room_1 s m args below meth c H locs cells slots Q (F0 m 706 ls []) := by
  have hG : GeoOK G := K.1.2.2.2.2.2.2.2.2
  have hV : VL p l e s m args below meth c Q cells slots ls H locs 706 [] :=
    ca_eq (pc := 706) (p1 := 717) (p2 := 731) (tgt := 783) (As := [ai (xs (i + 1)), ai (xs (i + 2))]) ⟨trivial, trivial, trivial⟩ rfl (lw_a1 K hl dL_law_706) (Pu_cons (lw_sc K hl hi 1 (by decide) rfl dL_law_707 dL_law_708 dL_law_709 dL_law_710 dL_law_711) (Pu_cons (lw_sc K hl hi 2 (by decide) rfl dL_law_712 dL_law_713 dL_law_714 dL_law_715 dL_law_716) Pu_nil)) (lw_cal K hl cls4 (ct_X5_where hG l) km_X5_where kv_X5_where ke_X5_where kl_84 (prs_0 (by decide)) (by decide) (by decide) dL_law_717) (lw_a2 K hl dL_law_720) (Pu_cons (lw_sc K hl hi 1 (by decide) rfl dL_law_721 dL_law_722 dL_law_723 dL_law_724 dL_law_725) (Pu_cons (lw_sc K hl hi 2 (by decide) rfl dL_law_726 dL_law_727 dL_law_728 dL_law_729 dL_law_730) Pu_nil)) (lw_cal K hl cls5 (ct_X6_where hG l) km_X6_where kv_X6_where ke_X6_where kl_87 (prs_0 (by decide)) (by decide) (by decide) dL_law_731) (lw_j K dL_law_734 rfl) (ag_where hR (xs (i + 1)) (xs (i + 2))) hP hS kk
  exact hV
set_option maxRecDepth 100000 in
theorem lw_k17 (K : LX G A b L xs cells slots p s m args meth c) (hl : lv_has ls 4 (lws G b i)) (hi : i + 5 ≤ L) {σ : SS} {H : Heap} {locs : List Loc} (hR : Rel σ) (hP : va_P G.1 vwCl (wsOf G σ) H) (hS : va_S A s.heap H locs) (kk : ∀ (σ' : SS) (H1 : Heap) (locs1 : List Loc), Rel σ' → va_P G.1 vwCl (wsOf G σ') H1 → va_S A s.heap H1 locs1 → W p l e room_1 s m args below meth c H1 locs1 cells slots Q (F0 m 783 ls [])) : W p l e room_1 s m args below meth c H locs cells slots Q (F0 m 739 ls []) := by
  have hG : GeoOK G := K.1.2.2.2.2.2.2.2.2
  have hV : VL p l e s m args below meth c Q cells slots ls H locs 739 [] :=
    ca_eq (pc := 739) (p1 := 745) (p2 := 754) (tgt := 783) (As := [ai (xs (i + 1))]) ⟨trivial, trivial⟩ rfl (lw_a1 K hl dL_law_739) (Pu_cons (lw_sc K hl hi 1 (by decide) rfl dL_law_740 dL_law_741 dL_law_742 dL_law_743 dL_law_744) Pu_nil) (lw_cal K hl cls4 (ct_X5_weight hG l) km_X5_weight kv_X5_weight ke_X5_weight kl_88 (prs_0 (by decide)) (by decide) (by decide) dL_law_745) (lw_a2 K hl dL_law_748) (Pu_cons (lw_sc K hl hi 1 (by decide) rfl dL_law_749 dL_law_750 dL_law_751 dL_law_752 dL_law_753) Pu_nil) (lw_cal K hl cls5 (ct_X6_weight hG l) km_X6_weight kv_X6_weight ke_X6_weight kl_91 (prs_0 (by decide)) (by decide) (by decide) dL_law_754) (lw_j K dL_law_757 rfl) (ag_weight hR (xs (i + 1))) hP hS kk
  exact hV
set_option maxRecDepth 100000 in
theorem lw_k18 (K : LX G A b L xs cells slots p s m args meth c) (hl : lv_has ls 4 (lws G b i)) (hi : i + 5 ≤ L) {σ : SS} {H : Heap} {locs : List Loc} (hR : Rel σ) (hP : va_P G.1 vwCl (wsOf G σ) H) (hS : va_S A s.heap H locs) (kk : ∀ (σ' : SS) (H1 : Heap) (locs1 : List Loc), Rel σ' → va_P G.1 vwCl (wsOf G σ') H1 → va_S A s.heap H1 locs1 → W p l e room_1 s m args below meth c H1 locs1 cells slots Q (F0 m 783 ls [])) : W p l e room_1 s m args below meth c H locs cells slots Q (F0 m 762 ls []) := by
  have hG : GeoOK G := K.1.2.2.2.2.2.2.2.2
  have hV : VL p l e s m args below meth c Q cells slots ls H locs 762 [] :=
    ca_no (pc := 762) (p1 := 768) (p2 := 777) (tgt := 783) (As := [ai (xs (i + 1))]) ⟨trivial, trivial⟩ rfl (lw_a1 K hl dL_law_762) (Pu_cons (lw_sc K hl hi 1 (by decide) rfl dL_law_763 dL_law_764 dL_law_765 dL_law_766 dL_law_767) Pu_nil) (lw_cal K hl cls4 (ct_X5_step hG l) km_X5_step kv_X5_step ke_X5_step kl_92 (prs_0 (by decide)) (by decide) (by decide) dL_law_768) (lw_a2 K hl dL_law_771) (Pu_cons (lw_sc K hl hi 1 (by decide) rfl dL_law_772 dL_law_773 dL_law_774 dL_law_775 dL_law_776) Pu_nil) (lw_cal K hl cls5 (ct_X6_step hG l) km_X6_step kv_X6_step ke_X6_step kl_96 (prs_0 (by decide)) (by decide) (by decide) dL_law_777) (lw_g K dL_law_780 rfl) (ag_step hR (xs (i + 1))) hP hS kk
  exact hV
set_option maxRecDepth 100000 in
theorem lw_it (K : LX G A b L xs cells slots p s m args meth c) (hl : lv_has ls 4 (lws G b i)) (hi : i + 5 ≤ L) {σ : SS} {H : Heap} {locs : List Loc} (hR : Rel σ) (hP : va_P G.1 vwCl (wsOf G σ) H) (hS : va_S A s.heap H locs) (kk : ∀ (σ' : SS) (H1 : Heap) (locs1 : List Loc), Rel σ' → va_P G.1 vwCl (wsOf G σ') H1 → va_S A s.heap H1 locs1 → W p l e room_1 s m args below meth c H1 locs1 cells slots Q (F0 m 783 ls [])) : W p l e room_1 s m args below meth c H locs cells slots Q (F0 m 26 ls []) := by
  have hx := K.1.1
  have hb := K.1.2.1
  obtain ⟨hX, hbl, hbA, hL, -⟩ := K.2.2
  refine lv_aload_n hx hb dL_law_26 rfl (lv_at hl 3 rfl) ?_
  refine lv_iload_n hx hb dL_law_27 rfl (lv_at hl 0 rfl) ?_
  refine va_sld hx hb hX hbl hbA hS (vp_in_nI (by omega) (by omega)) dL_law_28 ?_
  refine lv_bipush hx hb dL_law_29 (v := nI 31) rfl ?_
  refine lv_iand hx hb dL_law_31 ?_
  generalize xs (nI i).toNatClampNeg &&& nI 31 = v
  by_cases h1 : v.toInt < 0
  · exact lv_tableOut hx hb dL_law_32 (Or.inl h1) (tgt := 783) rfl (kk σ H locs hR hP hS)
  by_cases h2 : 18 < v.toInt
  · exact lv_tableOut hx hb dL_law_32 (Or.inr h2) (tgt := 783) rfl (kk σ H locs hR hP hS)
  obtain ⟨k, hk⟩ : ∃ k, (v.toInt - 0).toNat = k := ⟨_, rfl⟩
  have hk19 : k < 19 := by omega
  rcases (show k = 0 ∨ k = 1 ∨ k = 2 ∨ k = 3 ∨ k = 4 ∨ k = 5 ∨ k = 6 ∨ k = 7 ∨ k = 8 ∨ k = 9 ∨ k = 10 ∨ k = 11 ∨ k = 12 ∨ k = 13 ∨ k = 14 ∨ k = 15 ∨ k = 16 ∨ k = 17 ∨ k = 18 by omega) with rfl | rfl | rfl | rfl | rfl | rfl | rfl | rfl | rfl | rfl | rfl | rfl | rfl | rfl | rfl | rfl | rfl | rfl | rfl
  · exact lv_tableIn hx hb dL_law_32 h1 h2 (off := 92) (tgt := 124) (by rw [hk]; rfl) rfl (lw_k0 K hl hi hR hP hS kk)
  · exact lv_tableIn hx hb dL_law_32 h1 h2 (off := 141) (tgt := 173) (by rw [hk]; rfl) rfl (lw_k1 K hl hi hR hP hS kk)
  · exact lv_tableIn hx hb dL_law_32 h1 h2 (off := 194) (tgt := 226) (by rw [hk]; rfl) rfl (lw_k2 K hl hi hR hP hS kk)
  · exact lv_tableIn hx hb dL_law_32 h1 h2 (off := 227) (tgt := 259) (by rw [hk]; rfl) rfl (lw_k3 K hl hi hR hP hS kk)
  · exact lv_tableIn hx hb dL_law_32 h1 h2 (off := 260) (tgt := 292) (by rw [hk]; rfl) rfl (lw_k4 K hl hi hR hP hS kk)
  · exact lv_tableIn hx hb dL_law_32 h1 h2 (off := 313) (tgt := 345) (by rw [hk]; rfl) rfl (lw_k5 K hl hi hR hP hS kk)
  · exact lv_tableIn hx hb dL_law_32 h1 h2 (off := 366) (tgt := 398) (by rw [hk]; rfl) rfl (lw_k6 K hl hi hR hP hS kk)
  · exact lv_tableIn hx hb dL_law_32 h1 h2 (off := 419) (tgt := 451) (by rw [hk]; rfl) rfl (lw_k7 K hl hi hR hP hS kk)
  · exact lv_tableIn hx hb dL_law_32 h1 h2 (off := 472) (tgt := 504) (by rw [hk]; rfl) rfl (lw_k8 K hl hi hR hP hS kk)
  · exact lv_tableIn hx hb dL_law_32 h1 h2 (off := 505) (tgt := 537) (by rw [hk]; rfl) rfl (lw_k9 K hl hi hR hP hS kk)
  · exact lv_tableIn hx hb dL_law_32 h1 h2 (off := 546) (tgt := 578) (by rw [hk]; rfl) rfl (lw_k10 K hl hi hR hP hS kk)
  · exact lv_tableIn hx hb dL_law_32 h1 h2 (off := 569) (tgt := 601) (by rw [hk]; rfl) rfl (lw_k11 K hl hi hR hP hS kk)
  · exact lv_tableIn hx hb dL_law_32 h1 h2 (off := 602) (tgt := 634) (by rw [hk]; rfl) rfl (lw_k12 K hl hi hR hP hS kk)
  · exact lv_tableIn hx hb dL_law_32 h1 h2 (off := 625) (tgt := 657) (by rw [hk]; rfl) rfl (lw_k13 K hl hi hR hP hS kk)
  · exact lv_tableIn hx hb dL_law_32 h1 h2 (off := 638) (tgt := 670) (by rw [hk]; rfl) rfl (lw_k14 K hl hi hR hP hS kk)
  · exact lv_tableIn hx hb dL_law_32 h1 h2 (off := 661) (tgt := 693) (by rw [hk]; rfl) rfl (lw_k15 K hl hi hR hP hS kk)
  · exact lv_tableIn hx hb dL_law_32 h1 h2 (off := 674) (tgt := 706) (by rw [hk]; rfl) rfl (lw_k16 K hl hi hR hP hS kk)
  · exact lv_tableIn hx hb dL_law_32 h1 h2 (off := 707) (tgt := 739) (by rw [hk]; rfl) rfl (lw_k17 K hl hi hR hP hS kk)
  · exact lv_tableIn hx hb dL_law_32 h1 h2 (off := 730) (tgt := 762) (by rw [hk]; rfl) rfl (lw_k18 K hl hi hR hP hS kk)
end LW
