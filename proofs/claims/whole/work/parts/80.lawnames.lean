/- the law's own code; written by wip/whole/tools/law.py -/
theorem d_L_law_0 : decode code 0 = .ok (.new 7, 3) := by decide +kernel
theorem d_L_law_3 : decode code 3 = .ok (.dup, 1) := by decide +kernel
theorem d_L_law_4 : decode code 4 = .ok (.aload_n 0, 1) := by decide +kernel
theorem d_L_law_5 : decode code 5 = .ok (.iconst 0, 1) := by decide +kernel
theorem d_L_law_6 : decode code 6 = .ok (.invokestatic 9, 3) := by decide +kernel
theorem d_L_law_9 : decode code 9 = .ok (.invokespecial 15, 3) := by decide +kernel
theorem d_L_law_12 : decode code 12 = .ok (.astore_n 1, 1) := by decide +kernel
theorem d_L_law_13 : decode code 13 = .ok (.new 18, 3) := by decide +kernel
theorem d_L_law_16 : decode code 16 = .ok (.dup, 1) := by decide +kernel
theorem d_L_law_17 : decode code 17 = .ok (.aload_n 0, 1) := by decide +kernel
theorem d_L_law_18 : decode code 18 = .ok (.iconst 0, 1) := by decide +kernel
theorem d_L_law_19 : decode code 19 = .ok (.invokestatic 9, 3) := by decide +kernel
theorem d_L_law_22 : decode code 22 = .ok (.invokespecial 20, 3) := by decide +kernel
theorem d_L_law_25 : decode code 25 = .ok (.astore_n 2, 1) := by decide +kernel
theorem d_L_law_26 : decode code 26 = .ok (.iconst 1, 1) := by decide +kernel
theorem d_L_law_27 : decode code 27 = .ok (.istore_n 3, 1) := by decide +kernel
theorem d_L_law_28 : decode code 28 = .ok (.iload_n 3, 1) := by decide +kernel
theorem d_L_law_29 : decode code 29 = .ok (.aload_n 0, 1) := by decide +kernel
theorem d_L_law_30 : decode code 30 = .ok (.arraylength, 1) := by decide +kernel
theorem d_L_law_31 : decode code 31 = .ok (.iconst 5, 1) := by decide +kernel
theorem d_L_law_32 : decode code 32 = .ok (.isub, 1) := by decide +kernel
theorem d_L_law_33 : decode code 33 = .ok (.if_icmp .gt 624, 3) := by decide +kernel
theorem d_L_law_36 : decode code 36 = .ok (.aload_n 0, 1) := by decide +kernel
theorem d_L_law_37 : decode code 37 = .ok (.iload_n 3, 1) := by decide +kernel
theorem d_L_law_38 : decode code 38 = .ok (.iaload, 1) := by decide +kernel
theorem d_L_law_39 : decode code 39 = .ok (.bipush 31, 2) := by decide +kernel
theorem d_L_law_41 : decode code 41 = .ok (.iand, 1) := by decide +kernel
theorem d_L_law_42 : decode code 42 = .ok (.tableswitch 609 0 16 #[82, 141, 184, 217, 270, 283, 306, 319, 342, 355, 368, 381, 414, 447, 490, 533, 576], 82) := by decide +kernel
theorem d_L_law_124 : decode code 124 = .ok (.aload_n 1, 1) := by decide +kernel
theorem d_L_law_125 : decode code 125 = .ok (.aload_n 0, 1) := by decide +kernel
theorem d_L_law_126 : decode code 126 = .ok (.iload_n 3, 1) := by decide +kernel
theorem d_L_law_127 : decode code 127 = .ok (.iconst 1, 1) := by decide +kernel
theorem d_L_law_128 : decode code 128 = .ok (.iadd, 1) := by decide +kernel
theorem d_L_law_129 : decode code 129 = .ok (.iaload, 1) := by decide +kernel
theorem d_L_law_130 : decode code 130 = .ok (.aload_n 0, 1) := by decide +kernel
theorem d_L_law_131 : decode code 131 = .ok (.iload_n 3, 1) := by decide +kernel
theorem d_L_law_132 : decode code 132 = .ok (.iconst 2, 1) := by decide +kernel
theorem d_L_law_133 : decode code 133 = .ok (.iadd, 1) := by decide +kernel
theorem d_L_law_134 : decode code 134 = .ok (.iaload, 1) := by decide +kernel
theorem d_L_law_135 : decode code 135 = .ok (.aload_n 0, 1) := by decide +kernel
theorem d_L_law_136 : decode code 136 = .ok (.iload_n 3, 1) := by decide +kernel
theorem d_L_law_137 : decode code 137 = .ok (.iconst 3, 1) := by decide +kernel
theorem d_L_law_138 : decode code 138 = .ok (.iadd, 1) := by decide +kernel
theorem d_L_law_139 : decode code 139 = .ok (.iaload, 1) := by decide +kernel
theorem d_L_law_140 : decode code 140 = .ok (.ifCond .eq 7, 3) := by decide +kernel
theorem d_L_law_143 : decode code 143 = .ok (.iconst 1, 1) := by decide +kernel
theorem d_L_law_144 : decode code 144 = .ok (.goto 4, 3) := by decide +kernel
theorem d_L_law_147 : decode code 147 = .ok (.iconst 0, 1) := by decide +kernel
theorem d_L_law_148 : decode code 148 = .ok (.invokevirtual 21, 3) := by decide +kernel
theorem d_L_law_151 : decode code 151 = .ok (.aload_n 2, 1) := by decide +kernel
theorem d_L_law_152 : decode code 152 = .ok (.aload_n 0, 1) := by decide +kernel
theorem d_L_law_153 : decode code 153 = .ok (.iload_n 3, 1) := by decide +kernel
theorem d_L_law_154 : decode code 154 = .ok (.iconst 1, 1) := by decide +kernel
theorem d_L_law_155 : decode code 155 = .ok (.iadd, 1) := by decide +kernel
theorem d_L_law_156 : decode code 156 = .ok (.iaload, 1) := by decide +kernel
theorem d_L_law_157 : decode code 157 = .ok (.aload_n 0, 1) := by decide +kernel
theorem d_L_law_158 : decode code 158 = .ok (.iload_n 3, 1) := by decide +kernel
theorem d_L_law_159 : decode code 159 = .ok (.iconst 2, 1) := by decide +kernel
theorem d_L_law_160 : decode code 160 = .ok (.iadd, 1) := by decide +kernel
theorem d_L_law_161 : decode code 161 = .ok (.iaload, 1) := by decide +kernel
theorem d_L_law_162 : decode code 162 = .ok (.aload_n 0, 1) := by decide +kernel
theorem d_L_law_163 : decode code 163 = .ok (.iload_n 3, 1) := by decide +kernel
theorem d_L_law_164 : decode code 164 = .ok (.iconst 3, 1) := by decide +kernel
theorem d_L_law_165 : decode code 165 = .ok (.iadd, 1) := by decide +kernel
theorem d_L_law_166 : decode code 166 = .ok (.iaload, 1) := by decide +kernel
theorem d_L_law_167 : decode code 167 = .ok (.ifCond .eq 7, 3) := by decide +kernel
theorem d_L_law_170 : decode code 170 = .ok (.iconst 1, 1) := by decide +kernel
theorem d_L_law_171 : decode code 171 = .ok (.goto 4, 3) := by decide +kernel
theorem d_L_law_174 : decode code 174 = .ok (.iconst 0, 1) := by decide +kernel
theorem d_L_law_175 : decode code 175 = .ok (.invokevirtual 25, 3) := by decide +kernel
theorem d_L_law_178 : decode code 178 = .ok (.if_icmp .eq 473, 3) := by decide +kernel
theorem d_L_law_181 : decode code 181 = .ok (.iconst 0, 1) := by decide +kernel
theorem d_L_law_182 : decode code 182 = .ok (.ireturn, 1) := by decide +kernel
theorem d_L_law_183 : decode code 183 = .ok (.aload_n 1, 1) := by decide +kernel
theorem d_L_law_184 : decode code 184 = .ok (.aload_n 0, 1) := by decide +kernel
theorem d_L_law_185 : decode code 185 = .ok (.iload_n 3, 1) := by decide +kernel
theorem d_L_law_186 : decode code 186 = .ok (.iconst 1, 1) := by decide +kernel
theorem d_L_law_187 : decode code 187 = .ok (.iadd, 1) := by decide +kernel
theorem d_L_law_188 : decode code 188 = .ok (.iaload, 1) := by decide +kernel
theorem d_L_law_189 : decode code 189 = .ok (.aload_n 0, 1) := by decide +kernel
theorem d_L_law_190 : decode code 190 = .ok (.iload_n 3, 1) := by decide +kernel
theorem d_L_law_191 : decode code 191 = .ok (.iconst 2, 1) := by decide +kernel
theorem d_L_law_192 : decode code 192 = .ok (.iadd, 1) := by decide +kernel
theorem d_L_law_193 : decode code 193 = .ok (.iaload, 1) := by decide +kernel
theorem d_L_law_194 : decode code 194 = .ok (.aload_n 0, 1) := by decide +kernel
theorem d_L_law_195 : decode code 195 = .ok (.iload_n 3, 1) := by decide +kernel
theorem d_L_law_196 : decode code 196 = .ok (.iconst 3, 1) := by decide +kernel
theorem d_L_law_197 : decode code 197 = .ok (.iadd, 1) := by decide +kernel
theorem d_L_law_198 : decode code 198 = .ok (.iaload, 1) := by decide +kernel
theorem d_L_law_199 : decode code 199 = .ok (.invokevirtual 26, 3) := by decide +kernel
theorem d_L_law_202 : decode code 202 = .ok (.aload_n 2, 1) := by decide +kernel
theorem d_L_law_203 : decode code 203 = .ok (.aload_n 0, 1) := by decide +kernel
theorem d_L_law_204 : decode code 204 = .ok (.iload_n 3, 1) := by decide +kernel
theorem d_L_law_205 : decode code 205 = .ok (.iconst 1, 1) := by decide +kernel
theorem d_L_law_206 : decode code 206 = .ok (.iadd, 1) := by decide +kernel
theorem d_L_law_207 : decode code 207 = .ok (.iaload, 1) := by decide +kernel
theorem d_L_law_208 : decode code 208 = .ok (.aload_n 0, 1) := by decide +kernel
theorem d_L_law_209 : decode code 209 = .ok (.iload_n 3, 1) := by decide +kernel
theorem d_L_law_210 : decode code 210 = .ok (.iconst 2, 1) := by decide +kernel
theorem d_L_law_211 : decode code 211 = .ok (.iadd, 1) := by decide +kernel
theorem d_L_law_212 : decode code 212 = .ok (.iaload, 1) := by decide +kernel
theorem d_L_law_213 : decode code 213 = .ok (.aload_n 0, 1) := by decide +kernel
theorem d_L_law_214 : decode code 214 = .ok (.iload_n 3, 1) := by decide +kernel
theorem d_L_law_215 : decode code 215 = .ok (.iconst 3, 1) := by decide +kernel
theorem d_L_law_216 : decode code 216 = .ok (.iadd, 1) := by decide +kernel
theorem d_L_law_217 : decode code 217 = .ok (.iaload, 1) := by decide +kernel
theorem d_L_law_218 : decode code 218 = .ok (.invokevirtual 30, 3) := by decide +kernel
theorem d_L_law_221 : decode code 221 = .ok (.if_icmp .eq 430, 3) := by decide +kernel
theorem d_L_law_224 : decode code 224 = .ok (.iconst 0, 1) := by decide +kernel
theorem d_L_law_225 : decode code 225 = .ok (.ireturn, 1) := by decide +kernel
theorem d_L_law_226 : decode code 226 = .ok (.aload_n 1, 1) := by decide +kernel
theorem d_L_law_227 : decode code 227 = .ok (.aload_n 0, 1) := by decide +kernel
theorem d_L_law_228 : decode code 228 = .ok (.iload_n 3, 1) := by decide +kernel
theorem d_L_law_229 : decode code 229 = .ok (.iconst 1, 1) := by decide +kernel
theorem d_L_law_230 : decode code 230 = .ok (.iadd, 1) := by decide +kernel
theorem d_L_law_231 : decode code 231 = .ok (.iaload, 1) := by decide +kernel
theorem d_L_law_232 : decode code 232 = .ok (.aload_n 0, 1) := by decide +kernel
theorem d_L_law_233 : decode code 233 = .ok (.iload_n 3, 1) := by decide +kernel
theorem d_L_law_234 : decode code 234 = .ok (.iconst 2, 1) := by decide +kernel
theorem d_L_law_235 : decode code 235 = .ok (.iadd, 1) := by decide +kernel
theorem d_L_law_236 : decode code 236 = .ok (.iaload, 1) := by decide +kernel
theorem d_L_law_237 : decode code 237 = .ok (.invokevirtual 31, 3) := by decide +kernel
theorem d_L_law_240 : decode code 240 = .ok (.aload_n 2, 1) := by decide +kernel
theorem d_L_law_241 : decode code 241 = .ok (.aload_n 0, 1) := by decide +kernel
theorem d_L_law_242 : decode code 242 = .ok (.iload_n 3, 1) := by decide +kernel
theorem d_L_law_243 : decode code 243 = .ok (.iconst 1, 1) := by decide +kernel
theorem d_L_law_244 : decode code 244 = .ok (.iadd, 1) := by decide +kernel
theorem d_L_law_245 : decode code 245 = .ok (.iaload, 1) := by decide +kernel
theorem d_L_law_246 : decode code 246 = .ok (.aload_n 0, 1) := by decide +kernel
theorem d_L_law_247 : decode code 247 = .ok (.iload_n 3, 1) := by decide +kernel
theorem d_L_law_248 : decode code 248 = .ok (.iconst 2, 1) := by decide +kernel
theorem d_L_law_249 : decode code 249 = .ok (.iadd, 1) := by decide +kernel
theorem d_L_law_250 : decode code 250 = .ok (.iaload, 1) := by decide +kernel
theorem d_L_law_251 : decode code 251 = .ok (.invokevirtual 35, 3) := by decide +kernel
theorem d_L_law_254 : decode code 254 = .ok (.if_icmp .eq 397, 3) := by decide +kernel
theorem d_L_law_257 : decode code 257 = .ok (.iconst 0, 1) := by decide +kernel
theorem d_L_law_258 : decode code 258 = .ok (.ireturn, 1) := by decide +kernel
theorem d_L_law_259 : decode code 259 = .ok (.aload_n 1, 1) := by decide +kernel
theorem d_L_law_260 : decode code 260 = .ok (.aload_n 0, 1) := by decide +kernel
theorem d_L_law_261 : decode code 261 = .ok (.iload_n 3, 1) := by decide +kernel
theorem d_L_law_262 : decode code 262 = .ok (.iconst 1, 1) := by decide +kernel
theorem d_L_law_263 : decode code 263 = .ok (.iadd, 1) := by decide +kernel
theorem d_L_law_264 : decode code 264 = .ok (.iaload, 1) := by decide +kernel
theorem d_L_law_265 : decode code 265 = .ok (.aload_n 0, 1) := by decide +kernel
theorem d_L_law_266 : decode code 266 = .ok (.iload_n 3, 1) := by decide +kernel
theorem d_L_law_267 : decode code 267 = .ok (.iconst 2, 1) := by decide +kernel
theorem d_L_law_268 : decode code 268 = .ok (.iadd, 1) := by decide +kernel
theorem d_L_law_269 : decode code 269 = .ok (.iaload, 1) := by decide +kernel
theorem d_L_law_270 : decode code 270 = .ok (.aload_n 0, 1) := by decide +kernel
theorem d_L_law_271 : decode code 271 = .ok (.iload_n 3, 1) := by decide +kernel
theorem d_L_law_272 : decode code 272 = .ok (.iconst 3, 1) := by decide +kernel
theorem d_L_law_273 : decode code 273 = .ok (.iadd, 1) := by decide +kernel
theorem d_L_law_274 : decode code 274 = .ok (.iaload, 1) := by decide +kernel
theorem d_L_law_275 : decode code 275 = .ok (.aload_n 0, 1) := by decide +kernel
theorem d_L_law_276 : decode code 276 = .ok (.iload_n 3, 1) := by decide +kernel
theorem d_L_law_277 : decode code 277 = .ok (.iconst 4, 1) := by decide +kernel
theorem d_L_law_278 : decode code 278 = .ok (.iadd, 1) := by decide +kernel
theorem d_L_law_279 : decode code 279 = .ok (.iaload, 1) := by decide +kernel
theorem d_L_law_280 : decode code 280 = .ok (.invokevirtual 36, 3) := by decide +kernel
theorem d_L_law_283 : decode code 283 = .ok (.aload_n 2, 1) := by decide +kernel
theorem d_L_law_284 : decode code 284 = .ok (.aload_n 0, 1) := by decide +kernel
theorem d_L_law_285 : decode code 285 = .ok (.iload_n 3, 1) := by decide +kernel
theorem d_L_law_286 : decode code 286 = .ok (.iconst 1, 1) := by decide +kernel
theorem d_L_law_287 : decode code 287 = .ok (.iadd, 1) := by decide +kernel
theorem d_L_law_288 : decode code 288 = .ok (.iaload, 1) := by decide +kernel
theorem d_L_law_289 : decode code 289 = .ok (.aload_n 0, 1) := by decide +kernel
theorem d_L_law_290 : decode code 290 = .ok (.iload_n 3, 1) := by decide +kernel
theorem d_L_law_291 : decode code 291 = .ok (.iconst 2, 1) := by decide +kernel
theorem d_L_law_292 : decode code 292 = .ok (.iadd, 1) := by decide +kernel
theorem d_L_law_293 : decode code 293 = .ok (.iaload, 1) := by decide +kernel
theorem d_L_law_294 : decode code 294 = .ok (.aload_n 0, 1) := by decide +kernel
theorem d_L_law_295 : decode code 295 = .ok (.iload_n 3, 1) := by decide +kernel
theorem d_L_law_296 : decode code 296 = .ok (.iconst 3, 1) := by decide +kernel
theorem d_L_law_297 : decode code 297 = .ok (.iadd, 1) := by decide +kernel
theorem d_L_law_298 : decode code 298 = .ok (.iaload, 1) := by decide +kernel
theorem d_L_law_299 : decode code 299 = .ok (.aload_n 0, 1) := by decide +kernel
theorem d_L_law_300 : decode code 300 = .ok (.iload_n 3, 1) := by decide +kernel
theorem d_L_law_301 : decode code 301 = .ok (.iconst 4, 1) := by decide +kernel
theorem d_L_law_302 : decode code 302 = .ok (.iadd, 1) := by decide +kernel
theorem d_L_law_303 : decode code 303 = .ok (.iaload, 1) := by decide +kernel
theorem d_L_law_304 : decode code 304 = .ok (.invokevirtual 40, 3) := by decide +kernel
theorem d_L_law_307 : decode code 307 = .ok (.if_icmp .eq 344, 3) := by decide +kernel
theorem d_L_law_310 : decode code 310 = .ok (.iconst 0, 1) := by decide +kernel
theorem d_L_law_311 : decode code 311 = .ok (.ireturn, 1) := by decide +kernel
theorem d_L_law_312 : decode code 312 = .ok (.aload_n 1, 1) := by decide +kernel
theorem d_L_law_313 : decode code 313 = .ok (.invokevirtual 41, 3) := by decide +kernel
theorem d_L_law_316 : decode code 316 = .ok (.aload_n 2, 1) := by decide +kernel
theorem d_L_law_317 : decode code 317 = .ok (.invokevirtual 45, 3) := by decide +kernel
theorem d_L_law_320 : decode code 320 = .ok (.if_icmp .eq 331, 3) := by decide +kernel
theorem d_L_law_323 : decode code 323 = .ok (.iconst 0, 1) := by decide +kernel
theorem d_L_law_324 : decode code 324 = .ok (.ireturn, 1) := by decide +kernel
theorem d_L_law_325 : decode code 325 = .ok (.aload_n 1, 1) := by decide +kernel
theorem d_L_law_326 : decode code 326 = .ok (.aload_n 0, 1) := by decide +kernel
theorem d_L_law_327 : decode code 327 = .ok (.iload_n 3, 1) := by decide +kernel
theorem d_L_law_328 : decode code 328 = .ok (.iconst 1, 1) := by decide +kernel
theorem d_L_law_329 : decode code 329 = .ok (.iadd, 1) := by decide +kernel
theorem d_L_law_330 : decode code 330 = .ok (.iaload, 1) := by decide +kernel
theorem d_L_law_331 : decode code 331 = .ok (.invokevirtual 46, 3) := by decide +kernel
theorem d_L_law_334 : decode code 334 = .ok (.aload_n 2, 1) := by decide +kernel
theorem d_L_law_335 : decode code 335 = .ok (.aload_n 0, 1) := by decide +kernel
theorem d_L_law_336 : decode code 336 = .ok (.iload_n 3, 1) := by decide +kernel
theorem d_L_law_337 : decode code 337 = .ok (.iconst 1, 1) := by decide +kernel
theorem d_L_law_338 : decode code 338 = .ok (.iadd, 1) := by decide +kernel
theorem d_L_law_339 : decode code 339 = .ok (.iaload, 1) := by decide +kernel
theorem d_L_law_340 : decode code 340 = .ok (.invokevirtual 50, 3) := by decide +kernel
theorem d_L_law_343 : decode code 343 = .ok (.if_icmp .eq 308, 3) := by decide +kernel
theorem d_L_law_346 : decode code 346 = .ok (.iconst 0, 1) := by decide +kernel
theorem d_L_law_347 : decode code 347 = .ok (.ireturn, 1) := by decide +kernel
theorem d_L_law_348 : decode code 348 = .ok (.aload_n 1, 1) := by decide +kernel
theorem d_L_law_349 : decode code 349 = .ok (.invokevirtual 51, 3) := by decide +kernel
theorem d_L_law_352 : decode code 352 = .ok (.aload_n 2, 1) := by decide +kernel
theorem d_L_law_353 : decode code 353 = .ok (.invokevirtual 54, 3) := by decide +kernel
theorem d_L_law_356 : decode code 356 = .ok (.if_icmp .eq 295, 3) := by decide +kernel
theorem d_L_law_359 : decode code 359 = .ok (.iconst 0, 1) := by decide +kernel
theorem d_L_law_360 : decode code 360 = .ok (.ireturn, 1) := by decide +kernel
theorem d_L_law_361 : decode code 361 = .ok (.aload_n 1, 1) := by decide +kernel
theorem d_L_law_362 : decode code 362 = .ok (.aload_n 0, 1) := by decide +kernel
theorem d_L_law_363 : decode code 363 = .ok (.iload_n 3, 1) := by decide +kernel
theorem d_L_law_364 : decode code 364 = .ok (.iconst 1, 1) := by decide +kernel
theorem d_L_law_365 : decode code 365 = .ok (.iadd, 1) := by decide +kernel
theorem d_L_law_366 : decode code 366 = .ok (.iaload, 1) := by decide +kernel
theorem d_L_law_367 : decode code 367 = .ok (.invokevirtual 55, 3) := by decide +kernel
theorem d_L_law_370 : decode code 370 = .ok (.aload_n 2, 1) := by decide +kernel
theorem d_L_law_371 : decode code 371 = .ok (.aload_n 0, 1) := by decide +kernel
theorem d_L_law_372 : decode code 372 = .ok (.iload_n 3, 1) := by decide +kernel
theorem d_L_law_373 : decode code 373 = .ok (.iconst 1, 1) := by decide +kernel
theorem d_L_law_374 : decode code 374 = .ok (.iadd, 1) := by decide +kernel
theorem d_L_law_375 : decode code 375 = .ok (.iaload, 1) := by decide +kernel
theorem d_L_law_376 : decode code 376 = .ok (.invokevirtual 58, 3) := by decide +kernel
theorem d_L_law_379 : decode code 379 = .ok (.if_icmp .eq 272, 3) := by decide +kernel
theorem d_L_law_382 : decode code 382 = .ok (.iconst 0, 1) := by decide +kernel
theorem d_L_law_383 : decode code 383 = .ok (.ireturn, 1) := by decide +kernel
theorem d_L_law_384 : decode code 384 = .ok (.aload_n 1, 1) := by decide +kernel
theorem d_L_law_385 : decode code 385 = .ok (.invokevirtual 59, 3) := by decide +kernel
theorem d_L_law_388 : decode code 388 = .ok (.aload_n 2, 1) := by decide +kernel
theorem d_L_law_389 : decode code 389 = .ok (.invokevirtual 62, 3) := by decide +kernel
theorem d_L_law_392 : decode code 392 = .ok (.if_icmp .eq 259, 3) := by decide +kernel
theorem d_L_law_395 : decode code 395 = .ok (.iconst 0, 1) := by decide +kernel
theorem d_L_law_396 : decode code 396 = .ok (.ireturn, 1) := by decide +kernel
theorem d_L_law_397 : decode code 397 = .ok (.aload_n 1, 1) := by decide +kernel
theorem d_L_law_398 : decode code 398 = .ok (.invokevirtual 63, 3) := by decide +kernel
theorem d_L_law_401 : decode code 401 = .ok (.aload_n 2, 1) := by decide +kernel
theorem d_L_law_402 : decode code 402 = .ok (.invokevirtual 66, 3) := by decide +kernel
theorem d_L_law_405 : decode code 405 = .ok (.if_icmp .eq 246, 3) := by decide +kernel
theorem d_L_law_408 : decode code 408 = .ok (.iconst 0, 1) := by decide +kernel
theorem d_L_law_409 : decode code 409 = .ok (.ireturn, 1) := by decide +kernel
theorem d_L_law_410 : decode code 410 = .ok (.aload_n 1, 1) := by decide +kernel
theorem d_L_law_411 : decode code 411 = .ok (.invokevirtual 67, 3) := by decide +kernel
theorem d_L_law_414 : decode code 414 = .ok (.aload_n 2, 1) := by decide +kernel
theorem d_L_law_415 : decode code 415 = .ok (.invokevirtual 70, 3) := by decide +kernel
theorem d_L_law_418 : decode code 418 = .ok (.if_icmp .eq 233, 3) := by decide +kernel
theorem d_L_law_421 : decode code 421 = .ok (.iconst 0, 1) := by decide +kernel
theorem d_L_law_422 : decode code 422 = .ok (.ireturn, 1) := by decide +kernel
theorem d_L_law_423 : decode code 423 = .ok (.aload_n 1, 1) := by decide +kernel
theorem d_L_law_424 : decode code 424 = .ok (.aload_n 0, 1) := by decide +kernel
theorem d_L_law_425 : decode code 425 = .ok (.iload_n 3, 1) := by decide +kernel
theorem d_L_law_426 : decode code 426 = .ok (.iconst 1, 1) := by decide +kernel
theorem d_L_law_427 : decode code 427 = .ok (.iadd, 1) := by decide +kernel
theorem d_L_law_428 : decode code 428 = .ok (.iaload, 1) := by decide +kernel
theorem d_L_law_429 : decode code 429 = .ok (.aload_n 0, 1) := by decide +kernel
theorem d_L_law_430 : decode code 430 = .ok (.iload_n 3, 1) := by decide +kernel
theorem d_L_law_431 : decode code 431 = .ok (.iconst 2, 1) := by decide +kernel
theorem d_L_law_432 : decode code 432 = .ok (.iadd, 1) := by decide +kernel
theorem d_L_law_433 : decode code 433 = .ok (.iaload, 1) := by decide +kernel
theorem d_L_law_434 : decode code 434 = .ok (.invokevirtual 71, 3) := by decide +kernel
theorem d_L_law_437 : decode code 437 = .ok (.aload_n 2, 1) := by decide +kernel
theorem d_L_law_438 : decode code 438 = .ok (.aload_n 0, 1) := by decide +kernel
theorem d_L_law_439 : decode code 439 = .ok (.iload_n 3, 1) := by decide +kernel
theorem d_L_law_440 : decode code 440 = .ok (.iconst 1, 1) := by decide +kernel
theorem d_L_law_441 : decode code 441 = .ok (.iadd, 1) := by decide +kernel
theorem d_L_law_442 : decode code 442 = .ok (.iaload, 1) := by decide +kernel
theorem d_L_law_443 : decode code 443 = .ok (.aload_n 0, 1) := by decide +kernel
theorem d_L_law_444 : decode code 444 = .ok (.iload_n 3, 1) := by decide +kernel
theorem d_L_law_445 : decode code 445 = .ok (.iconst 2, 1) := by decide +kernel
theorem d_L_law_446 : decode code 446 = .ok (.iadd, 1) := by decide +kernel
theorem d_L_law_447 : decode code 447 = .ok (.iaload, 1) := by decide +kernel
theorem d_L_law_448 : decode code 448 = .ok (.invokevirtual 74, 3) := by decide +kernel
theorem d_L_law_451 : decode code 451 = .ok (.if_icmp .eq 200, 3) := by decide +kernel
theorem d_L_law_454 : decode code 454 = .ok (.iconst 0, 1) := by decide +kernel
theorem d_L_law_455 : decode code 455 = .ok (.ireturn, 1) := by decide +kernel
theorem d_L_law_456 : decode code 456 = .ok (.aload_n 1, 1) := by decide +kernel
theorem d_L_law_457 : decode code 457 = .ok (.aload_n 0, 1) := by decide +kernel
theorem d_L_law_458 : decode code 458 = .ok (.iload_n 3, 1) := by decide +kernel
theorem d_L_law_459 : decode code 459 = .ok (.iconst 1, 1) := by decide +kernel
theorem d_L_law_460 : decode code 460 = .ok (.iadd, 1) := by decide +kernel
theorem d_L_law_461 : decode code 461 = .ok (.iaload, 1) := by decide +kernel
theorem d_L_law_462 : decode code 462 = .ok (.aload_n 0, 1) := by decide +kernel
theorem d_L_law_463 : decode code 463 = .ok (.iload_n 3, 1) := by decide +kernel
theorem d_L_law_464 : decode code 464 = .ok (.iconst 2, 1) := by decide +kernel
theorem d_L_law_465 : decode code 465 = .ok (.iadd, 1) := by decide +kernel
theorem d_L_law_466 : decode code 466 = .ok (.iaload, 1) := by decide +kernel
theorem d_L_law_467 : decode code 467 = .ok (.invokevirtual 75, 3) := by decide +kernel
theorem d_L_law_470 : decode code 470 = .ok (.aload_n 2, 1) := by decide +kernel
theorem d_L_law_471 : decode code 471 = .ok (.aload_n 0, 1) := by decide +kernel
theorem d_L_law_472 : decode code 472 = .ok (.iload_n 3, 1) := by decide +kernel
theorem d_L_law_473 : decode code 473 = .ok (.iconst 1, 1) := by decide +kernel
theorem d_L_law_474 : decode code 474 = .ok (.iadd, 1) := by decide +kernel
theorem d_L_law_475 : decode code 475 = .ok (.iaload, 1) := by decide +kernel
theorem d_L_law_476 : decode code 476 = .ok (.aload_n 0, 1) := by decide +kernel
theorem d_L_law_477 : decode code 477 = .ok (.iload_n 3, 1) := by decide +kernel
theorem d_L_law_478 : decode code 478 = .ok (.iconst 2, 1) := by decide +kernel
theorem d_L_law_479 : decode code 479 = .ok (.iadd, 1) := by decide +kernel
theorem d_L_law_480 : decode code 480 = .ok (.iaload, 1) := by decide +kernel
theorem d_L_law_481 : decode code 481 = .ok (.invokevirtual 78, 3) := by decide +kernel
theorem d_L_law_484 : decode code 484 = .ok (.if_icmp .eq 167, 3) := by decide +kernel
theorem d_L_law_487 : decode code 487 = .ok (.iconst 0, 1) := by decide +kernel
theorem d_L_law_488 : decode code 488 = .ok (.ireturn, 1) := by decide +kernel
theorem d_L_law_489 : decode code 489 = .ok (.aload_n 1, 1) := by decide +kernel
theorem d_L_law_490 : decode code 490 = .ok (.aload_n 0, 1) := by decide +kernel
theorem d_L_law_491 : decode code 491 = .ok (.iload_n 3, 1) := by decide +kernel
theorem d_L_law_492 : decode code 492 = .ok (.iconst 1, 1) := by decide +kernel
theorem d_L_law_493 : decode code 493 = .ok (.iadd, 1) := by decide +kernel
theorem d_L_law_494 : decode code 494 = .ok (.iaload, 1) := by decide +kernel
theorem d_L_law_495 : decode code 495 = .ok (.aload_n 0, 1) := by decide +kernel
theorem d_L_law_496 : decode code 496 = .ok (.iload_n 3, 1) := by decide +kernel
theorem d_L_law_497 : decode code 497 = .ok (.iconst 2, 1) := by decide +kernel
theorem d_L_law_498 : decode code 498 = .ok (.iadd, 1) := by decide +kernel
theorem d_L_law_499 : decode code 499 = .ok (.iaload, 1) := by decide +kernel
theorem d_L_law_500 : decode code 500 = .ok (.aload_n 0, 1) := by decide +kernel
theorem d_L_law_501 : decode code 501 = .ok (.iload_n 3, 1) := by decide +kernel
theorem d_L_law_502 : decode code 502 = .ok (.iconst 3, 1) := by decide +kernel
theorem d_L_law_503 : decode code 503 = .ok (.iadd, 1) := by decide +kernel
theorem d_L_law_504 : decode code 504 = .ok (.iaload, 1) := by decide +kernel
theorem d_L_law_505 : decode code 505 = .ok (.invokevirtual 79, 3) := by decide +kernel
theorem d_L_law_508 : decode code 508 = .ok (.aload_n 2, 1) := by decide +kernel
theorem d_L_law_509 : decode code 509 = .ok (.aload_n 0, 1) := by decide +kernel
theorem d_L_law_510 : decode code 510 = .ok (.iload_n 3, 1) := by decide +kernel
theorem d_L_law_511 : decode code 511 = .ok (.iconst 1, 1) := by decide +kernel
theorem d_L_law_512 : decode code 512 = .ok (.iadd, 1) := by decide +kernel
theorem d_L_law_513 : decode code 513 = .ok (.iaload, 1) := by decide +kernel
theorem d_L_law_514 : decode code 514 = .ok (.aload_n 0, 1) := by decide +kernel
theorem d_L_law_515 : decode code 515 = .ok (.iload_n 3, 1) := by decide +kernel
theorem d_L_law_516 : decode code 516 = .ok (.iconst 2, 1) := by decide +kernel
theorem d_L_law_517 : decode code 517 = .ok (.iadd, 1) := by decide +kernel
theorem d_L_law_518 : decode code 518 = .ok (.iaload, 1) := by decide +kernel
theorem d_L_law_519 : decode code 519 = .ok (.aload_n 0, 1) := by decide +kernel
theorem d_L_law_520 : decode code 520 = .ok (.iload_n 3, 1) := by decide +kernel
theorem d_L_law_521 : decode code 521 = .ok (.iconst 3, 1) := by decide +kernel
theorem d_L_law_522 : decode code 522 = .ok (.iadd, 1) := by decide +kernel
theorem d_L_law_523 : decode code 523 = .ok (.iaload, 1) := by decide +kernel
theorem d_L_law_524 : decode code 524 = .ok (.invokevirtual 82, 3) := by decide +kernel
theorem d_L_law_527 : decode code 527 = .ok (.if_icmp .eq 124, 3) := by decide +kernel
theorem d_L_law_530 : decode code 530 = .ok (.iconst 0, 1) := by decide +kernel
theorem d_L_law_531 : decode code 531 = .ok (.ireturn, 1) := by decide +kernel
theorem d_L_law_532 : decode code 532 = .ok (.aload_n 1, 1) := by decide +kernel
theorem d_L_law_533 : decode code 533 = .ok (.aload_n 0, 1) := by decide +kernel
theorem d_L_law_534 : decode code 534 = .ok (.iload_n 3, 1) := by decide +kernel
theorem d_L_law_535 : decode code 535 = .ok (.iconst 1, 1) := by decide +kernel
theorem d_L_law_536 : decode code 536 = .ok (.iadd, 1) := by decide +kernel
theorem d_L_law_537 : decode code 537 = .ok (.iaload, 1) := by decide +kernel
theorem d_L_law_538 : decode code 538 = .ok (.aload_n 0, 1) := by decide +kernel
theorem d_L_law_539 : decode code 539 = .ok (.iload_n 3, 1) := by decide +kernel
theorem d_L_law_540 : decode code 540 = .ok (.iconst 2, 1) := by decide +kernel
theorem d_L_law_541 : decode code 541 = .ok (.iadd, 1) := by decide +kernel
theorem d_L_law_542 : decode code 542 = .ok (.iaload, 1) := by decide +kernel
theorem d_L_law_543 : decode code 543 = .ok (.aload_n 0, 1) := by decide +kernel
theorem d_L_law_544 : decode code 544 = .ok (.iload_n 3, 1) := by decide +kernel
theorem d_L_law_545 : decode code 545 = .ok (.iconst 3, 1) := by decide +kernel
theorem d_L_law_546 : decode code 546 = .ok (.iadd, 1) := by decide +kernel
theorem d_L_law_547 : decode code 547 = .ok (.iaload, 1) := by decide +kernel
theorem d_L_law_548 : decode code 548 = .ok (.invokevirtual 83, 3) := by decide +kernel
theorem d_L_law_551 : decode code 551 = .ok (.aload_n 2, 1) := by decide +kernel
theorem d_L_law_552 : decode code 552 = .ok (.aload_n 0, 1) := by decide +kernel
theorem d_L_law_553 : decode code 553 = .ok (.iload_n 3, 1) := by decide +kernel
theorem d_L_law_554 : decode code 554 = .ok (.iconst 1, 1) := by decide +kernel
theorem d_L_law_555 : decode code 555 = .ok (.iadd, 1) := by decide +kernel
theorem d_L_law_556 : decode code 556 = .ok (.iaload, 1) := by decide +kernel
theorem d_L_law_557 : decode code 557 = .ok (.aload_n 0, 1) := by decide +kernel
theorem d_L_law_558 : decode code 558 = .ok (.iload_n 3, 1) := by decide +kernel
theorem d_L_law_559 : decode code 559 = .ok (.iconst 2, 1) := by decide +kernel
theorem d_L_law_560 : decode code 560 = .ok (.iadd, 1) := by decide +kernel
theorem d_L_law_561 : decode code 561 = .ok (.iaload, 1) := by decide +kernel
theorem d_L_law_562 : decode code 562 = .ok (.aload_n 0, 1) := by decide +kernel
theorem d_L_law_563 : decode code 563 = .ok (.iload_n 3, 1) := by decide +kernel
theorem d_L_law_564 : decode code 564 = .ok (.iconst 3, 1) := by decide +kernel
theorem d_L_law_565 : decode code 565 = .ok (.iadd, 1) := by decide +kernel
theorem d_L_law_566 : decode code 566 = .ok (.iaload, 1) := by decide +kernel
theorem d_L_law_567 : decode code 567 = .ok (.invokevirtual 86, 3) := by decide +kernel
theorem d_L_law_570 : decode code 570 = .ok (.if_icmp .eq 81, 3) := by decide +kernel
theorem d_L_law_573 : decode code 573 = .ok (.iconst 0, 1) := by decide +kernel
theorem d_L_law_574 : decode code 574 = .ok (.ireturn, 1) := by decide +kernel
theorem d_L_law_575 : decode code 575 = .ok (.aload_n 1, 1) := by decide +kernel
theorem d_L_law_576 : decode code 576 = .ok (.aload_n 0, 1) := by decide +kernel
theorem d_L_law_577 : decode code 577 = .ok (.iload_n 3, 1) := by decide +kernel
theorem d_L_law_578 : decode code 578 = .ok (.iconst 1, 1) := by decide +kernel
theorem d_L_law_579 : decode code 579 = .ok (.iadd, 1) := by decide +kernel
theorem d_L_law_580 : decode code 580 = .ok (.iaload, 1) := by decide +kernel
theorem d_L_law_581 : decode code 581 = .ok (.aload_n 0, 1) := by decide +kernel
theorem d_L_law_582 : decode code 582 = .ok (.iload_n 3, 1) := by decide +kernel
theorem d_L_law_583 : decode code 583 = .ok (.iconst 2, 1) := by decide +kernel
theorem d_L_law_584 : decode code 584 = .ok (.iadd, 1) := by decide +kernel
theorem d_L_law_585 : decode code 585 = .ok (.iaload, 1) := by decide +kernel
theorem d_L_law_586 : decode code 586 = .ok (.aload_n 0, 1) := by decide +kernel
theorem d_L_law_587 : decode code 587 = .ok (.iload_n 3, 1) := by decide +kernel
theorem d_L_law_588 : decode code 588 = .ok (.iconst 3, 1) := by decide +kernel
theorem d_L_law_589 : decode code 589 = .ok (.iadd, 1) := by decide +kernel
theorem d_L_law_590 : decode code 590 = .ok (.iaload, 1) := by decide +kernel
theorem d_L_law_591 : decode code 591 = .ok (.invokevirtual 87, 3) := by decide +kernel
theorem d_L_law_594 : decode code 594 = .ok (.aload_n 2, 1) := by decide +kernel
theorem d_L_law_595 : decode code 595 = .ok (.aload_n 0, 1) := by decide +kernel
theorem d_L_law_596 : decode code 596 = .ok (.iload_n 3, 1) := by decide +kernel
theorem d_L_law_597 : decode code 597 = .ok (.iconst 1, 1) := by decide +kernel
theorem d_L_law_598 : decode code 598 = .ok (.iadd, 1) := by decide +kernel
theorem d_L_law_599 : decode code 599 = .ok (.iaload, 1) := by decide +kernel
theorem d_L_law_600 : decode code 600 = .ok (.aload_n 0, 1) := by decide +kernel
theorem d_L_law_601 : decode code 601 = .ok (.iload_n 3, 1) := by decide +kernel
theorem d_L_law_602 : decode code 602 = .ok (.iconst 2, 1) := by decide +kernel
theorem d_L_law_603 : decode code 603 = .ok (.iadd, 1) := by decide +kernel
theorem d_L_law_604 : decode code 604 = .ok (.iaload, 1) := by decide +kernel
theorem d_L_law_605 : decode code 605 = .ok (.aload_n 0, 1) := by decide +kernel
theorem d_L_law_606 : decode code 606 = .ok (.iload_n 3, 1) := by decide +kernel
theorem d_L_law_607 : decode code 607 = .ok (.iconst 3, 1) := by decide +kernel
theorem d_L_law_608 : decode code 608 = .ok (.iadd, 1) := by decide +kernel
theorem d_L_law_609 : decode code 609 = .ok (.iaload, 1) := by decide +kernel
theorem d_L_law_610 : decode code 610 = .ok (.invokevirtual 90, 3) := by decide +kernel
theorem d_L_law_613 : decode code 613 = .ok (.if_icmp .eq 38, 3) := by decide +kernel
theorem d_L_law_616 : decode code 616 = .ok (.iconst 0, 1) := by decide +kernel
theorem d_L_law_617 : decode code 617 = .ok (.ireturn, 1) := by decide +kernel
theorem d_L_law_618 : decode code 618 = .ok (.aload_n 1, 1) := by decide +kernel
theorem d_L_law_619 : decode code 619 = .ok (.aload_n 0, 1) := by decide +kernel
theorem d_L_law_620 : decode code 620 = .ok (.iload_n 3, 1) := by decide +kernel
theorem d_L_law_621 : decode code 621 = .ok (.iconst 1, 1) := by decide +kernel
theorem d_L_law_622 : decode code 622 = .ok (.iadd, 1) := by decide +kernel
theorem d_L_law_623 : decode code 623 = .ok (.iaload, 1) := by decide +kernel
theorem d_L_law_624 : decode code 624 = .ok (.aload_n 0, 1) := by decide +kernel
theorem d_L_law_625 : decode code 625 = .ok (.iload_n 3, 1) := by decide +kernel
theorem d_L_law_626 : decode code 626 = .ok (.iconst 2, 1) := by decide +kernel
theorem d_L_law_627 : decode code 627 = .ok (.iadd, 1) := by decide +kernel
theorem d_L_law_628 : decode code 628 = .ok (.iaload, 1) := by decide +kernel
theorem d_L_law_629 : decode code 629 = .ok (.invokevirtual 91, 3) := by decide +kernel
theorem d_L_law_632 : decode code 632 = .ok (.aload_n 2, 1) := by decide +kernel
theorem d_L_law_633 : decode code 633 = .ok (.aload_n 0, 1) := by decide +kernel
theorem d_L_law_634 : decode code 634 = .ok (.iload_n 3, 1) := by decide +kernel
theorem d_L_law_635 : decode code 635 = .ok (.iconst 1, 1) := by decide +kernel
theorem d_L_law_636 : decode code 636 = .ok (.iadd, 1) := by decide +kernel
theorem d_L_law_637 : decode code 637 = .ok (.iaload, 1) := by decide +kernel
theorem d_L_law_638 : decode code 638 = .ok (.aload_n 0, 1) := by decide +kernel
theorem d_L_law_639 : decode code 639 = .ok (.iload_n 3, 1) := by decide +kernel
theorem d_L_law_640 : decode code 640 = .ok (.iconst 2, 1) := by decide +kernel
theorem d_L_law_641 : decode code 641 = .ok (.iadd, 1) := by decide +kernel
theorem d_L_law_642 : decode code 642 = .ok (.iaload, 1) := by decide +kernel
theorem d_L_law_643 : decode code 643 = .ok (.invokevirtual 94, 3) := by decide +kernel
theorem d_L_law_646 : decode code 646 = .ok (.if_icmp .eq 5, 3) := by decide +kernel
theorem d_L_law_649 : decode code 649 = .ok (.iconst 0, 1) := by decide +kernel
theorem d_L_law_650 : decode code 650 = .ok (.ireturn, 1) := by decide +kernel
theorem d_L_law_651 : decode code 651 = .ok (.iinc 3 5, 3) := by decide +kernel
theorem d_L_law_654 : decode code 654 = .ok (.goto (-626), 3) := by decide +kernel
theorem d_L_law_657 : decode code 657 = .ok (.iconst 1, 1) := by decide +kernel
theorem d_L_law_658 : decode code 658 = .ok (.ireturn, 1) := by decide +kernel
theorem cv_L_21 : aw_cv "SessionTablesLaw" 21 Y_S_make 3 3 := ⟨F_S, rfl, aw_mem (List.mem_of_getElem? (i := 149) (by decide +kernel)) rfl, aw_mem (List.mem_of_getElem? (i := 146) (by decide +kernel)) rfl, aw_mem (List.mem_of_getElem? (i := 147) (by decide +kernel)) rfl, aw_mem (List.mem_of_getElem? (i := 148) (by decide +kernel)) rfl, aw_mem (List.mem_of_getElem? (i := 34) (by decide +kernel)) rfl, ⟨by decide +kernel, by decide +kernel, by decide +kernel⟩, by decide⟩ -- SessionTables.make
theorem cv_L_25 : aw_cv "SessionTablesLaw" 25 Y_R_make 4 3 := ⟨F_R, rfl, aw_mem (List.mem_of_getElem? (i := 451) (by decide +kernel)) rfl, aw_mem (List.mem_of_getElem? (i := 448) (by decide +kernel)) rfl, aw_mem (List.mem_of_getElem? (i := 449) (by decide +kernel)) rfl, aw_mem (List.mem_of_getElem? (i := 450) (by decide +kernel)) rfl, aw_mem (List.mem_of_getElem? (i := 39) (by decide +kernel)) rfl, ⟨by decide +kernel, by decide +kernel, by decide +kernel⟩, by decide⟩ -- SessionTablesModel.make
theorem cv_L_26 : aw_cv "SessionTablesLaw" 26 Y_S_write 3 3 := ⟨F_S, rfl, aw_mem (List.mem_of_getElem? (i := 193) (by decide +kernel)) rfl, aw_mem (List.mem_of_getElem? (i := 190) (by decide +kernel)) rfl, aw_mem (List.mem_of_getElem? (i := 191) (by decide +kernel)) rfl, aw_mem (List.mem_of_getElem? (i := 192) (by decide +kernel)) rfl, aw_mem (List.mem_of_getElem? (i := 34) (by decide +kernel)) rfl, ⟨by decide +kernel, by decide +kernel, by decide +kernel⟩, by decide⟩ -- SessionTables.write
theorem cv_L_30 : aw_cv "SessionTablesLaw" 30 Y_R_write 4 3 := ⟨F_R, rfl, aw_mem (List.mem_of_getElem? (i := 475) (by decide +kernel)) rfl, aw_mem (List.mem_of_getElem? (i := 472) (by decide +kernel)) rfl, aw_mem (List.mem_of_getElem? (i := 473) (by decide +kernel)) rfl, aw_mem (List.mem_of_getElem? (i := 474) (by decide +kernel)) rfl, aw_mem (List.mem_of_getElem? (i := 39) (by decide +kernel)) rfl, ⟨by decide +kernel, by decide +kernel, by decide +kernel⟩, by decide⟩ -- SessionTablesModel.write
theorem cv_L_31 : aw_cv "SessionTablesLaw" 31 Y_S_remove 3 2 := ⟨F_S, rfl, aw_mem (List.mem_of_getElem? (i := 273) (by decide +kernel)) rfl, aw_mem (List.mem_of_getElem? (i := 270) (by decide +kernel)) rfl, aw_mem (List.mem_of_getElem? (i := 271) (by decide +kernel)) rfl, aw_mem (List.mem_of_getElem? (i := 272) (by decide +kernel)) rfl, aw_mem (List.mem_of_getElem? (i := 34) (by decide +kernel)) rfl, ⟨by decide +kernel, by decide +kernel, by decide +kernel⟩, by decide⟩ -- SessionTables.remove
theorem cv_L_35 : aw_cv "SessionTablesLaw" 35 Y_R_remove 4 2 := ⟨F_R, rfl, aw_mem (List.mem_of_getElem? (i := 517) (by decide +kernel)) rfl, aw_mem (List.mem_of_getElem? (i := 514) (by decide +kernel)) rfl, aw_mem (List.mem_of_getElem? (i := 515) (by decide +kernel)) rfl, aw_mem (List.mem_of_getElem? (i := 516) (by decide +kernel)) rfl, aw_mem (List.mem_of_getElem? (i := 39) (by decide +kernel)) rfl, ⟨by decide +kernel, by decide +kernel, by decide +kernel⟩, by decide⟩ -- SessionTablesModel.remove
theorem cv_L_36 : aw_cv "SessionTablesLaw" 36 Y_S_move 3 4 := ⟨F_S, rfl, aw_mem (List.mem_of_getElem? (i := 291) (by decide +kernel)) rfl, aw_mem (List.mem_of_getElem? (i := 288) (by decide +kernel)) rfl, aw_mem (List.mem_of_getElem? (i := 289) (by decide +kernel)) rfl, aw_mem (List.mem_of_getElem? (i := 290) (by decide +kernel)) rfl, aw_mem (List.mem_of_getElem? (i := 34) (by decide +kernel)) rfl, ⟨by decide +kernel, by decide +kernel, by decide +kernel⟩, by decide⟩ -- SessionTables.move
theorem cv_L_40 : aw_cv "SessionTablesLaw" 40 Y_R_move 4 4 := ⟨F_R, rfl, aw_mem (List.mem_of_getElem? (i := 525) (by decide +kernel)) rfl, aw_mem (List.mem_of_getElem? (i := 522) (by decide +kernel)) rfl, aw_mem (List.mem_of_getElem? (i := 523) (by decide +kernel)) rfl, aw_mem (List.mem_of_getElem? (i := 524) (by decide +kernel)) rfl, aw_mem (List.mem_of_getElem? (i := 39) (by decide +kernel)) rfl, ⟨by decide +kernel, by decide +kernel, by decide +kernel⟩, by decide⟩ -- SessionTablesModel.move
theorem cv_L_41 : aw_cv "SessionTablesLaw" 41 Y_S_close 3 0 := ⟨F_S, rfl, aw_mem (List.mem_of_getElem? (i := 307) (by decide +kernel)) rfl, aw_mem (List.mem_of_getElem? (i := 304) (by decide +kernel)) rfl, aw_mem (List.mem_of_getElem? (i := 305) (by decide +kernel)) rfl, aw_mem (List.mem_of_getElem? (i := 306) (by decide +kernel)) rfl, aw_mem (List.mem_of_getElem? (i := 34) (by decide +kernel)) rfl, ⟨by decide +kernel, by decide +kernel, by decide +kernel⟩, by decide⟩ -- SessionTables.close
theorem cv_L_45 : aw_cv "SessionTablesLaw" 45 Y_R_close 4 0 := ⟨F_R, rfl, aw_mem (List.mem_of_getElem? (i := 533) (by decide +kernel)) rfl, aw_mem (List.mem_of_getElem? (i := 530) (by decide +kernel)) rfl, aw_mem (List.mem_of_getElem? (i := 531) (by decide +kernel)) rfl, aw_mem (List.mem_of_getElem? (i := 532) (by decide +kernel)) rfl, aw_mem (List.mem_of_getElem? (i := 39) (by decide +kernel)) rfl, ⟨by decide +kernel, by decide +kernel, by decide +kernel⟩, by decide⟩ -- SessionTablesModel.close
theorem cv_L_46 : aw_cv "SessionTablesLaw" 46 Y_S_arm 3 1 := ⟨F_S, rfl, aw_mem (List.mem_of_getElem? (i := 327) (by decide +kernel)) rfl, aw_mem (List.mem_of_getElem? (i := 324) (by decide +kernel)) rfl, aw_mem (List.mem_of_getElem? (i := 325) (by decide +kernel)) rfl, aw_mem (List.mem_of_getElem? (i := 326) (by decide +kernel)) rfl, aw_mem (List.mem_of_getElem? (i := 34) (by decide +kernel)) rfl, ⟨by decide +kernel, by decide +kernel, by decide +kernel⟩, by decide⟩ -- SessionTables.arm
theorem cv_L_50 : aw_cv "SessionTablesLaw" 50 Y_R_arm 4 1 := ⟨F_R, rfl, aw_mem (List.mem_of_getElem? (i := 541) (by decide +kernel)) rfl, aw_mem (List.mem_of_getElem? (i := 538) (by decide +kernel)) rfl, aw_mem (List.mem_of_getElem? (i := 539) (by decide +kernel)) rfl, aw_mem (List.mem_of_getElem? (i := 540) (by decide +kernel)) rfl, aw_mem (List.mem_of_getElem? (i := 39) (by decide +kernel)) rfl, ⟨by decide +kernel, by decide +kernel, by decide +kernel⟩, by decide⟩ -- SessionTablesModel.arm
theorem cv_L_51 : aw_cv "SessionTablesLaw" 51 Y_S_crash 3 0 := ⟨F_S, rfl, aw_mem (List.mem_of_getElem? (i := 331) (by decide +kernel)) rfl, aw_mem (List.mem_of_getElem? (i := 328) (by decide +kernel)) rfl, aw_mem (List.mem_of_getElem? (i := 329) (by decide +kernel)) rfl, aw_mem (List.mem_of_getElem? (i := 330) (by decide +kernel)) rfl, aw_mem (List.mem_of_getElem? (i := 34) (by decide +kernel)) rfl, ⟨by decide +kernel, by decide +kernel, by decide +kernel⟩, by decide⟩ -- SessionTables.crash
theorem cv_L_54 : aw_cv "SessionTablesLaw" 54 Y_R_crash 4 0 := ⟨F_R, rfl, aw_mem (List.mem_of_getElem? (i := 545) (by decide +kernel)) rfl, aw_mem (List.mem_of_getElem? (i := 542) (by decide +kernel)) rfl, aw_mem (List.mem_of_getElem? (i := 543) (by decide +kernel)) rfl, aw_mem (List.mem_of_getElem? (i := 544) (by decide +kernel)) rfl, aw_mem (List.mem_of_getElem? (i := 39) (by decide +kernel)) rfl, ⟨by decide +kernel, by decide +kernel, by decide +kernel⟩, by decide⟩ -- SessionTablesModel.crash
theorem cv_L_55 : aw_cv "SessionTablesLaw" 55 Y_S_spoil 3 1 := ⟨F_S, rfl, aw_mem (List.mem_of_getElem? (i := 335) (by decide +kernel)) rfl, aw_mem (List.mem_of_getElem? (i := 332) (by decide +kernel)) rfl, aw_mem (List.mem_of_getElem? (i := 333) (by decide +kernel)) rfl, aw_mem (List.mem_of_getElem? (i := 334) (by decide +kernel)) rfl, aw_mem (List.mem_of_getElem? (i := 34) (by decide +kernel)) rfl, ⟨by decide +kernel, by decide +kernel, by decide +kernel⟩, by decide⟩ -- SessionTables.spoil
theorem cv_L_58 : aw_cv "SessionTablesLaw" 58 Y_R_spoil 4 1 := ⟨F_R, rfl, aw_mem (List.mem_of_getElem? (i := 549) (by decide +kernel)) rfl, aw_mem (List.mem_of_getElem? (i := 546) (by decide +kernel)) rfl, aw_mem (List.mem_of_getElem? (i := 547) (by decide +kernel)) rfl, aw_mem (List.mem_of_getElem? (i := 548) (by decide +kernel)) rfl, aw_mem (List.mem_of_getElem? (i := 39) (by decide +kernel)) rfl, ⟨by decide +kernel, by decide +kernel, by decide +kernel⟩, by decide⟩ -- SessionTablesModel.spoil
theorem cv_L_59 : aw_cv "SessionTablesLaw" 59 Y_S_left 3 0 := ⟨F_S, rfl, aw_mem (List.mem_of_getElem? (i := 344) (by decide +kernel)) rfl, aw_mem (List.mem_of_getElem? (i := 341) (by decide +kernel)) rfl, aw_mem (List.mem_of_getElem? (i := 342) (by decide +kernel)) rfl, aw_mem (List.mem_of_getElem? (i := 343) (by decide +kernel)) rfl, aw_mem (List.mem_of_getElem? (i := 34) (by decide +kernel)) rfl, ⟨by decide +kernel, by decide +kernel, by decide +kernel⟩, by decide⟩ -- SessionTables.left
theorem cv_L_62 : aw_cv "SessionTablesLaw" 62 Y_R_left 4 0 := ⟨F_R, rfl, aw_mem (List.mem_of_getElem? (i := 553) (by decide +kernel)) rfl, aw_mem (List.mem_of_getElem? (i := 550) (by decide +kernel)) rfl, aw_mem (List.mem_of_getElem? (i := 551) (by decide +kernel)) rfl, aw_mem (List.mem_of_getElem? (i := 552) (by decide +kernel)) rfl, aw_mem (List.mem_of_getElem? (i := 39) (by decide +kernel)) rfl, ⟨by decide +kernel, by decide +kernel, by decide +kernel⟩, by decide⟩ -- SessionTablesModel.left
theorem cv_L_63 : aw_cv "SessionTablesLaw" 63 Y_S_changed 3 0 := ⟨F_S, rfl, aw_mem (List.mem_of_getElem? (i := 348) (by decide +kernel)) rfl, aw_mem (List.mem_of_getElem? (i := 345) (by decide +kernel)) rfl, aw_mem (List.mem_of_getElem? (i := 346) (by decide +kernel)) rfl, aw_mem (List.mem_of_getElem? (i := 347) (by decide +kernel)) rfl, aw_mem (List.mem_of_getElem? (i := 34) (by decide +kernel)) rfl, ⟨by decide +kernel, by decide +kernel, by decide +kernel⟩, by decide⟩ -- SessionTables.changed
theorem cv_L_66 : aw_cv "SessionTablesLaw" 66 Y_R_changed 4 0 := ⟨F_R, rfl, aw_mem (List.mem_of_getElem? (i := 557) (by decide +kernel)) rfl, aw_mem (List.mem_of_getElem? (i := 554) (by decide +kernel)) rfl, aw_mem (List.mem_of_getElem? (i := 555) (by decide +kernel)) rfl, aw_mem (List.mem_of_getElem? (i := 556) (by decide +kernel)) rfl, aw_mem (List.mem_of_getElem? (i := 39) (by decide +kernel)) rfl, ⟨by decide +kernel, by decide +kernel, by decide +kernel⟩, by decide⟩ -- SessionTablesModel.changed
theorem cv_L_67 : aw_cv "SessionTablesLaw" 67 Y_S_tables 3 0 := ⟨F_S, rfl, aw_mem (List.mem_of_getElem? (i := 352) (by decide +kernel)) rfl, aw_mem (List.mem_of_getElem? (i := 349) (by decide +kernel)) rfl, aw_mem (List.mem_of_getElem? (i := 350) (by decide +kernel)) rfl, aw_mem (List.mem_of_getElem? (i := 351) (by decide +kernel)) rfl, aw_mem (List.mem_of_getElem? (i := 34) (by decide +kernel)) rfl, ⟨by decide +kernel, by decide +kernel, by decide +kernel⟩, by decide⟩ -- SessionTables.tables
theorem cv_L_70 : aw_cv "SessionTablesLaw" 70 Y_R_tables 4 0 := ⟨F_R, rfl, aw_mem (List.mem_of_getElem? (i := 561) (by decide +kernel)) rfl, aw_mem (List.mem_of_getElem? (i := 558) (by decide +kernel)) rfl, aw_mem (List.mem_of_getElem? (i := 559) (by decide +kernel)) rfl, aw_mem (List.mem_of_getElem? (i := 560) (by decide +kernel)) rfl, aw_mem (List.mem_of_getElem? (i := 39) (by decide +kernel)) rfl, ⟨by decide +kernel, by decide +kernel, by decide +kernel⟩, by decide⟩ -- SessionTablesModel.tables
theorem cv_L_71 : aw_cv "SessionTablesLaw" 71 Y_S_kind 3 2 := ⟨F_S, rfl, aw_mem (List.mem_of_getElem? (i := 356) (by decide +kernel)) rfl, aw_mem (List.mem_of_getElem? (i := 353) (by decide +kernel)) rfl, aw_mem (List.mem_of_getElem? (i := 354) (by decide +kernel)) rfl, aw_mem (List.mem_of_getElem? (i := 355) (by decide +kernel)) rfl, aw_mem (List.mem_of_getElem? (i := 34) (by decide +kernel)) rfl, ⟨by decide +kernel, by decide +kernel, by decide +kernel⟩, by decide⟩ -- SessionTables.kind
theorem cv_L_74 : aw_cv "SessionTablesLaw" 74 Y_R_kind 4 2 := ⟨F_R, rfl, aw_mem (List.mem_of_getElem? (i := 565) (by decide +kernel)) rfl, aw_mem (List.mem_of_getElem? (i := 562) (by decide +kernel)) rfl, aw_mem (List.mem_of_getElem? (i := 563) (by decide +kernel)) rfl, aw_mem (List.mem_of_getElem? (i := 564) (by decide +kernel)) rfl, aw_mem (List.mem_of_getElem? (i := 39) (by decide +kernel)) rfl, ⟨by decide +kernel, by decide +kernel, by decide +kernel⟩, by decide⟩ -- SessionTablesModel.kind
theorem cv_L_75 : aw_cv "SessionTablesLaw" 75 Y_S_items 3 2 := ⟨F_S, rfl, aw_mem (List.mem_of_getElem? (i := 369) (by decide +kernel)) rfl, aw_mem (List.mem_of_getElem? (i := 366) (by decide +kernel)) rfl, aw_mem (List.mem_of_getElem? (i := 367) (by decide +kernel)) rfl, aw_mem (List.mem_of_getElem? (i := 368) (by decide +kernel)) rfl, aw_mem (List.mem_of_getElem? (i := 34) (by decide +kernel)) rfl, ⟨by decide +kernel, by decide +kernel, by decide +kernel⟩, by decide⟩ -- SessionTables.items
theorem cv_L_78 : aw_cv "SessionTablesLaw" 78 Y_R_items 4 2 := ⟨F_R, rfl, aw_mem (List.mem_of_getElem? (i := 585) (by decide +kernel)) rfl, aw_mem (List.mem_of_getElem? (i := 582) (by decide +kernel)) rfl, aw_mem (List.mem_of_getElem? (i := 583) (by decide +kernel)) rfl, aw_mem (List.mem_of_getElem? (i := 584) (by decide +kernel)) rfl, aw_mem (List.mem_of_getElem? (i := 39) (by decide +kernel)) rfl, ⟨by decide +kernel, by decide +kernel, by decide +kernel⟩, by decide⟩ -- SessionTablesModel.items
theorem cv_L_79 : aw_cv "SessionTablesLaw" 79 Y_S_find 3 3 := ⟨F_S, rfl, aw_mem (List.mem_of_getElem? (i := 373) (by decide +kernel)) rfl, aw_mem (List.mem_of_getElem? (i := 370) (by decide +kernel)) rfl, aw_mem (List.mem_of_getElem? (i := 371) (by decide +kernel)) rfl, aw_mem (List.mem_of_getElem? (i := 372) (by decide +kernel)) rfl, aw_mem (List.mem_of_getElem? (i := 34) (by decide +kernel)) rfl, ⟨by decide +kernel, by decide +kernel, by decide +kernel⟩, by decide⟩ -- SessionTables.find
theorem cv_L_82 : aw_cv "SessionTablesLaw" 82 Y_R_find 4 3 := ⟨F_R, rfl, aw_mem (List.mem_of_getElem? (i := 589) (by decide +kernel)) rfl, aw_mem (List.mem_of_getElem? (i := 586) (by decide +kernel)) rfl, aw_mem (List.mem_of_getElem? (i := 587) (by decide +kernel)) rfl, aw_mem (List.mem_of_getElem? (i := 588) (by decide +kernel)) rfl, aw_mem (List.mem_of_getElem? (i := 39) (by decide +kernel)) rfl, ⟨by decide +kernel, by decide +kernel, by decide +kernel⟩, by decide⟩ -- SessionTablesModel.find
theorem cv_L_83 : aw_cv "SessionTablesLaw" 83 Y_S_item 3 3 := ⟨F_S, rfl, aw_mem (List.mem_of_getElem? (i := 377) (by decide +kernel)) rfl, aw_mem (List.mem_of_getElem? (i := 374) (by decide +kernel)) rfl, aw_mem (List.mem_of_getElem? (i := 375) (by decide +kernel)) rfl, aw_mem (List.mem_of_getElem? (i := 376) (by decide +kernel)) rfl, aw_mem (List.mem_of_getElem? (i := 34) (by decide +kernel)) rfl, ⟨by decide +kernel, by decide +kernel, by decide +kernel⟩, by decide⟩ -- SessionTables.item
theorem cv_L_86 : aw_cv "SessionTablesLaw" 86 Y_R_item 4 3 := ⟨F_R, rfl, aw_mem (List.mem_of_getElem? (i := 593) (by decide +kernel)) rfl, aw_mem (List.mem_of_getElem? (i := 590) (by decide +kernel)) rfl, aw_mem (List.mem_of_getElem? (i := 591) (by decide +kernel)) rfl, aw_mem (List.mem_of_getElem? (i := 592) (by decide +kernel)) rfl, aw_mem (List.mem_of_getElem? (i := 39) (by decide +kernel)) rfl, ⟨by decide +kernel, by decide +kernel, by decide +kernel⟩, by decide⟩ -- SessionTablesModel.item
theorem cv_L_87 : aw_cv "SessionTablesLaw" 87 Y_S_block 3 3 := ⟨F_S, rfl, aw_mem (List.mem_of_getElem? (i := 382) (by decide +kernel)) rfl, aw_mem (List.mem_of_getElem? (i := 379) (by decide +kernel)) rfl, aw_mem (List.mem_of_getElem? (i := 380) (by decide +kernel)) rfl, aw_mem (List.mem_of_getElem? (i := 381) (by decide +kernel)) rfl, aw_mem (List.mem_of_getElem? (i := 34) (by decide +kernel)) rfl, ⟨by decide +kernel, by decide +kernel, by decide +kernel⟩, by decide⟩ -- SessionTables.block
theorem cv_L_90 : aw_cv "SessionTablesLaw" 90 Y_R_block 4 3 := ⟨F_R, rfl, aw_mem (List.mem_of_getElem? (i := 597) (by decide +kernel)) rfl, aw_mem (List.mem_of_getElem? (i := 594) (by decide +kernel)) rfl, aw_mem (List.mem_of_getElem? (i := 595) (by decide +kernel)) rfl, aw_mem (List.mem_of_getElem? (i := 596) (by decide +kernel)) rfl, aw_mem (List.mem_of_getElem? (i := 39) (by decide +kernel)) rfl, ⟨by decide +kernel, by decide +kernel, by decide +kernel⟩, by decide⟩ -- SessionTablesModel.block
theorem cv_L_91 : aw_cv "SessionTablesLaw" 91 Y_S_word 3 2 := ⟨F_S, rfl, aw_mem (List.mem_of_getElem? (i := 386) (by decide +kernel)) rfl, aw_mem (List.mem_of_getElem? (i := 383) (by decide +kernel)) rfl, aw_mem (List.mem_of_getElem? (i := 384) (by decide +kernel)) rfl, aw_mem (List.mem_of_getElem? (i := 385) (by decide +kernel)) rfl, aw_mem (List.mem_of_getElem? (i := 34) (by decide +kernel)) rfl, ⟨by decide +kernel, by decide +kernel, by decide +kernel⟩, by decide⟩ -- SessionTables.word
theorem cv_L_94 : aw_cv "SessionTablesLaw" 94 Y_R_word 4 2 := ⟨F_R, rfl, aw_mem (List.mem_of_getElem? (i := 601) (by decide +kernel)) rfl, aw_mem (List.mem_of_getElem? (i := 598) (by decide +kernel)) rfl, aw_mem (List.mem_of_getElem? (i := 599) (by decide +kernel)) rfl, aw_mem (List.mem_of_getElem? (i := 600) (by decide +kernel)) rfl, aw_mem (List.mem_of_getElem? (i := 39) (by decide +kernel)) rfl, ⟨by decide +kernel, by decide +kernel, by decide +kernel⟩, by decide⟩ -- SessionTablesModel.word
