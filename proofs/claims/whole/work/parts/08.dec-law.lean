theorem d_L_law_0 : decode c_L_law 0 = .ok (.new 7, 3) := by decide +kernel
theorem d_L_law_3 : decode c_L_law 3 = .ok (.dup, 1) := by decide +kernel
theorem d_L_law_4 : decode c_L_law 4 = .ok (.invokespecial 9, 3) := by decide +kernel
theorem d_L_law_7 : decode c_L_law 7 = .ok (.astore_n 1, 1) := by decide +kernel
theorem d_L_law_8 : decode c_L_law 8 = .ok (.new 10, 3) := by decide +kernel
theorem d_L_law_11 : decode c_L_law 11 = .ok (.dup, 1) := by decide +kernel
theorem d_L_law_12 : decode c_L_law 12 = .ok (.invokespecial 12, 3) := by decide +kernel
theorem d_L_law_15 : decode c_L_law 15 = .ok (.astore_n 2, 1) := by decide +kernel
theorem d_L_law_16 : decode c_L_law 16 = .ok (.iconst 0, 1) := by decide +kernel
theorem d_L_law_17 : decode c_L_law 17 = .ok (.istore_n 3, 1) := by decide +kernel
theorem d_L_law_18 : decode c_L_law 18 = .ok (.iload_n 3, 1) := by decide +kernel
theorem d_L_law_19 : decode c_L_law 19 = .ok (.aload_n 0, 1) := by decide +kernel
theorem d_L_law_20 : decode c_L_law 20 = .ok (.arraylength, 1) := by decide +kernel
theorem d_L_law_21 : decode c_L_law 21 = .ok (.bipush 8, 2) := by decide +kernel
theorem d_L_law_23 : decode c_L_law 23 = .ok (.isub, 1) := by decide +kernel
theorem d_L_law_24 : decode c_L_law 24 = .ok (.if_icmp .gt 988, 3) := by decide +kernel
theorem d_L_law_27 : decode c_L_law 27 = .ok (.aload_n 0, 1) := by decide +kernel
theorem d_L_law_28 : decode c_L_law 28 = .ok (.iload_n 3, 1) := by decide +kernel
theorem d_L_law_29 : decode c_L_law 29 = .ok (.iaload, 1) := by decide +kernel
theorem d_L_law_30 : decode c_L_law 30 = .ok (.bipush 31, 2) := by decide +kernel
theorem d_L_law_32 : decode c_L_law 32 = .ok (.iand, 1) := by decide +kernel
theorem d_L_law_33 : decode c_L_law 33 = .ok (.tableswitch 973 0 19 #[95, 118, 131, 194, 237, 310, 344, 417, 470, 494, 518, 531, 564, 711, 744, 777, 840, 874, 907, 950], 95) := by decide +kernel
theorem d_L_law_128 : decode c_L_law 128 = .ok (.aload_n 1, 1) := by decide +kernel
theorem d_L_law_129 : decode c_L_law 129 = .ok (.aload_n 0, 1) := by decide +kernel
theorem d_L_law_130 : decode c_L_law 130 = .ok (.iload_n 3, 1) := by decide +kernel
theorem d_L_law_131 : decode c_L_law 131 = .ok (.iconst 1, 1) := by decide +kernel
theorem d_L_law_132 : decode c_L_law 132 = .ok (.iadd, 1) := by decide +kernel
theorem d_L_law_133 : decode c_L_law 133 = .ok (.iaload, 1) := by decide +kernel
theorem d_L_law_134 : decode c_L_law 134 = .ok (.invokevirtual 13, 3) := by decide +kernel
theorem d_L_law_137 : decode c_L_law 137 = .ok (.aload_n 2, 1) := by decide +kernel
theorem d_L_law_138 : decode c_L_law 138 = .ok (.aload_n 0, 1) := by decide +kernel
theorem d_L_law_139 : decode c_L_law 139 = .ok (.iload_n 3, 1) := by decide +kernel
theorem d_L_law_140 : decode c_L_law 140 = .ok (.iconst 1, 1) := by decide +kernel
theorem d_L_law_141 : decode c_L_law 141 = .ok (.iadd, 1) := by decide +kernel
theorem d_L_law_142 : decode c_L_law 142 = .ok (.iaload, 1) := by decide +kernel
theorem d_L_law_143 : decode c_L_law 143 = .ok (.invokevirtual 17, 3) := by decide +kernel
theorem d_L_law_146 : decode c_L_law 146 = .ok (.if_icmp .eq 860, 3) := by decide +kernel
theorem d_L_law_149 : decode c_L_law 149 = .ok (.iconst 0, 1) := by decide +kernel
theorem d_L_law_150 : decode c_L_law 150 = .ok (.ireturn, 1) := by decide +kernel
theorem d_L_law_151 : decode c_L_law 151 = .ok (.aload_n 1, 1) := by decide +kernel
theorem d_L_law_152 : decode c_L_law 152 = .ok (.invokevirtual 18, 3) := by decide +kernel
theorem d_L_law_155 : decode c_L_law 155 = .ok (.aload_n 2, 1) := by decide +kernel
theorem d_L_law_156 : decode c_L_law 156 = .ok (.invokevirtual 22, 3) := by decide +kernel
theorem d_L_law_159 : decode c_L_law 159 = .ok (.if_icmp .eq 847, 3) := by decide +kernel
theorem d_L_law_162 : decode c_L_law 162 = .ok (.iconst 0, 1) := by decide +kernel
theorem d_L_law_163 : decode c_L_law 163 = .ok (.ireturn, 1) := by decide +kernel
theorem d_L_law_164 : decode c_L_law 164 = .ok (.aload_n 1, 1) := by decide +kernel
theorem d_L_law_165 : decode c_L_law 165 = .ok (.aload_n 0, 1) := by decide +kernel
theorem d_L_law_166 : decode c_L_law 166 = .ok (.iload_n 3, 1) := by decide +kernel
theorem d_L_law_167 : decode c_L_law 167 = .ok (.iconst 1, 1) := by decide +kernel
theorem d_L_law_168 : decode c_L_law 168 = .ok (.iadd, 1) := by decide +kernel
theorem d_L_law_169 : decode c_L_law 169 = .ok (.iaload, 1) := by decide +kernel
theorem d_L_law_170 : decode c_L_law 170 = .ok (.aload_n 0, 1) := by decide +kernel
theorem d_L_law_171 : decode c_L_law 171 = .ok (.iload_n 3, 1) := by decide +kernel
theorem d_L_law_172 : decode c_L_law 172 = .ok (.iconst 2, 1) := by decide +kernel
theorem d_L_law_173 : decode c_L_law 173 = .ok (.iadd, 1) := by decide +kernel
theorem d_L_law_174 : decode c_L_law 174 = .ok (.iaload, 1) := by decide +kernel
theorem d_L_law_175 : decode c_L_law 175 = .ok (.i2l, 1) := by decide +kernel
theorem d_L_law_176 : decode c_L_law 176 = .ok (.bipush 32, 2) := by decide +kernel
theorem d_L_law_178 : decode c_L_law 178 = .ok (.lshl, 1) := by decide +kernel
theorem d_L_law_179 : decode c_L_law 179 = .ok (.aload_n 0, 1) := by decide +kernel
theorem d_L_law_180 : decode c_L_law 180 = .ok (.iload_n 3, 1) := by decide +kernel
theorem d_L_law_181 : decode c_L_law 181 = .ok (.iconst 3, 1) := by decide +kernel
theorem d_L_law_182 : decode c_L_law 182 = .ok (.iadd, 1) := by decide +kernel
theorem d_L_law_183 : decode c_L_law 183 = .ok (.iaload, 1) := by decide +kernel
theorem d_L_law_184 : decode c_L_law 184 = .ok (.i2l, 1) := by decide +kernel
theorem d_L_law_185 : decode c_L_law 185 = .ok (.ldc2_w 23, 3) := by decide +kernel
theorem d_L_law_188 : decode c_L_law 188 = .ok (.land, 1) := by decide +kernel
theorem d_L_law_189 : decode c_L_law 189 = .ok (.lor, 1) := by decide +kernel
theorem d_L_law_190 : decode c_L_law 190 = .ok (.invokevirtual 25, 3) := by decide +kernel
theorem d_L_law_193 : decode c_L_law 193 = .ok (.aload_n 2, 1) := by decide +kernel
theorem d_L_law_194 : decode c_L_law 194 = .ok (.aload_n 0, 1) := by decide +kernel
theorem d_L_law_195 : decode c_L_law 195 = .ok (.iload_n 3, 1) := by decide +kernel
theorem d_L_law_196 : decode c_L_law 196 = .ok (.iconst 1, 1) := by decide +kernel
theorem d_L_law_197 : decode c_L_law 197 = .ok (.iadd, 1) := by decide +kernel
theorem d_L_law_198 : decode c_L_law 198 = .ok (.iaload, 1) := by decide +kernel
theorem d_L_law_199 : decode c_L_law 199 = .ok (.aload_n 0, 1) := by decide +kernel
theorem d_L_law_200 : decode c_L_law 200 = .ok (.iload_n 3, 1) := by decide +kernel
theorem d_L_law_201 : decode c_L_law 201 = .ok (.iconst 2, 1) := by decide +kernel
theorem d_L_law_202 : decode c_L_law 202 = .ok (.iadd, 1) := by decide +kernel
theorem d_L_law_203 : decode c_L_law 203 = .ok (.iaload, 1) := by decide +kernel
theorem d_L_law_204 : decode c_L_law 204 = .ok (.i2l, 1) := by decide +kernel
theorem d_L_law_205 : decode c_L_law 205 = .ok (.bipush 32, 2) := by decide +kernel
theorem d_L_law_207 : decode c_L_law 207 = .ok (.lshl, 1) := by decide +kernel
theorem d_L_law_208 : decode c_L_law 208 = .ok (.aload_n 0, 1) := by decide +kernel
theorem d_L_law_209 : decode c_L_law 209 = .ok (.iload_n 3, 1) := by decide +kernel
theorem d_L_law_210 : decode c_L_law 210 = .ok (.iconst 3, 1) := by decide +kernel
theorem d_L_law_211 : decode c_L_law 211 = .ok (.iadd, 1) := by decide +kernel
theorem d_L_law_212 : decode c_L_law 212 = .ok (.iaload, 1) := by decide +kernel
theorem d_L_law_213 : decode c_L_law 213 = .ok (.i2l, 1) := by decide +kernel
theorem d_L_law_214 : decode c_L_law 214 = .ok (.ldc2_w 23, 3) := by decide +kernel
theorem d_L_law_217 : decode c_L_law 217 = .ok (.land, 1) := by decide +kernel
theorem d_L_law_218 : decode c_L_law 218 = .ok (.lor, 1) := by decide +kernel
theorem d_L_law_219 : decode c_L_law 219 = .ok (.invokevirtual 29, 3) := by decide +kernel
theorem d_L_law_222 : decode c_L_law 222 = .ok (.if_icmp .eq 784, 3) := by decide +kernel
theorem d_L_law_225 : decode c_L_law 225 = .ok (.iconst 0, 1) := by decide +kernel
theorem d_L_law_226 : decode c_L_law 226 = .ok (.ireturn, 1) := by decide +kernel
theorem d_L_law_227 : decode c_L_law 227 = .ok (.aload_n 1, 1) := by decide +kernel
theorem d_L_law_228 : decode c_L_law 228 = .ok (.aload_n 0, 1) := by decide +kernel
theorem d_L_law_229 : decode c_L_law 229 = .ok (.iload_n 3, 1) := by decide +kernel
theorem d_L_law_230 : decode c_L_law 230 = .ok (.iconst 1, 1) := by decide +kernel
theorem d_L_law_231 : decode c_L_law 231 = .ok (.iadd, 1) := by decide +kernel
theorem d_L_law_232 : decode c_L_law 232 = .ok (.iaload, 1) := by decide +kernel
theorem d_L_law_233 : decode c_L_law 233 = .ok (.aload_n 0, 1) := by decide +kernel
theorem d_L_law_234 : decode c_L_law 234 = .ok (.iload_n 3, 1) := by decide +kernel
theorem d_L_law_235 : decode c_L_law 235 = .ok (.iconst 2, 1) := by decide +kernel
theorem d_L_law_236 : decode c_L_law 236 = .ok (.iadd, 1) := by decide +kernel
theorem d_L_law_237 : decode c_L_law 237 = .ok (.iaload, 1) := by decide +kernel
theorem d_L_law_238 : decode c_L_law 238 = .ok (.aload_n 0, 1) := by decide +kernel
theorem d_L_law_239 : decode c_L_law 239 = .ok (.iload_n 3, 1) := by decide +kernel
theorem d_L_law_240 : decode c_L_law 240 = .ok (.iconst 3, 1) := by decide +kernel
theorem d_L_law_241 : decode c_L_law 241 = .ok (.iadd, 1) := by decide +kernel
theorem d_L_law_242 : decode c_L_law 242 = .ok (.iaload, 1) := by decide +kernel
theorem d_L_law_243 : decode c_L_law 243 = .ok (.invokevirtual 30, 3) := by decide +kernel
theorem d_L_law_246 : decode c_L_law 246 = .ok (.aload_n 2, 1) := by decide +kernel
theorem d_L_law_247 : decode c_L_law 247 = .ok (.aload_n 0, 1) := by decide +kernel
theorem d_L_law_248 : decode c_L_law 248 = .ok (.iload_n 3, 1) := by decide +kernel
theorem d_L_law_249 : decode c_L_law 249 = .ok (.iconst 1, 1) := by decide +kernel
theorem d_L_law_250 : decode c_L_law 250 = .ok (.iadd, 1) := by decide +kernel
theorem d_L_law_251 : decode c_L_law 251 = .ok (.iaload, 1) := by decide +kernel
theorem d_L_law_252 : decode c_L_law 252 = .ok (.aload_n 0, 1) := by decide +kernel
theorem d_L_law_253 : decode c_L_law 253 = .ok (.iload_n 3, 1) := by decide +kernel
theorem d_L_law_254 : decode c_L_law 254 = .ok (.iconst 2, 1) := by decide +kernel
theorem d_L_law_255 : decode c_L_law 255 = .ok (.iadd, 1) := by decide +kernel
theorem d_L_law_256 : decode c_L_law 256 = .ok (.iaload, 1) := by decide +kernel
theorem d_L_law_257 : decode c_L_law 257 = .ok (.aload_n 0, 1) := by decide +kernel
theorem d_L_law_258 : decode c_L_law 258 = .ok (.iload_n 3, 1) := by decide +kernel
theorem d_L_law_259 : decode c_L_law 259 = .ok (.iconst 3, 1) := by decide +kernel
theorem d_L_law_260 : decode c_L_law 260 = .ok (.iadd, 1) := by decide +kernel
theorem d_L_law_261 : decode c_L_law 261 = .ok (.iaload, 1) := by decide +kernel
theorem d_L_law_262 : decode c_L_law 262 = .ok (.invokevirtual 34, 3) := by decide +kernel
theorem d_L_law_265 : decode c_L_law 265 = .ok (.if_icmp .eq 741, 3) := by decide +kernel
theorem d_L_law_268 : decode c_L_law 268 = .ok (.iconst 0, 1) := by decide +kernel
theorem d_L_law_269 : decode c_L_law 269 = .ok (.ireturn, 1) := by decide +kernel
theorem d_L_law_270 : decode c_L_law 270 = .ok (.aload_n 1, 1) := by decide +kernel
theorem d_L_law_271 : decode c_L_law 271 = .ok (.aload_n 0, 1) := by decide +kernel
theorem d_L_law_272 : decode c_L_law 272 = .ok (.iload_n 3, 1) := by decide +kernel
theorem d_L_law_273 : decode c_L_law 273 = .ok (.iconst 1, 1) := by decide +kernel
theorem d_L_law_274 : decode c_L_law 274 = .ok (.iadd, 1) := by decide +kernel
theorem d_L_law_275 : decode c_L_law 275 = .ok (.iaload, 1) := by decide +kernel
theorem d_L_law_276 : decode c_L_law 276 = .ok (.aload_n 0, 1) := by decide +kernel
theorem d_L_law_277 : decode c_L_law 277 = .ok (.iload_n 3, 1) := by decide +kernel
theorem d_L_law_278 : decode c_L_law 278 = .ok (.iconst 2, 1) := by decide +kernel
theorem d_L_law_279 : decode c_L_law 279 = .ok (.iadd, 1) := by decide +kernel
theorem d_L_law_280 : decode c_L_law 280 = .ok (.iaload, 1) := by decide +kernel
theorem d_L_law_281 : decode c_L_law 281 = .ok (.aload_n 0, 1) := by decide +kernel
theorem d_L_law_282 : decode c_L_law 282 = .ok (.iload_n 3, 1) := by decide +kernel
theorem d_L_law_283 : decode c_L_law 283 = .ok (.iconst 3, 1) := by decide +kernel
theorem d_L_law_284 : decode c_L_law 284 = .ok (.iadd, 1) := by decide +kernel
theorem d_L_law_285 : decode c_L_law 285 = .ok (.iaload, 1) := by decide +kernel
theorem d_L_law_286 : decode c_L_law 286 = .ok (.i2l, 1) := by decide +kernel
theorem d_L_law_287 : decode c_L_law 287 = .ok (.bipush 32, 2) := by decide +kernel
theorem d_L_law_289 : decode c_L_law 289 = .ok (.lshl, 1) := by decide +kernel
theorem d_L_law_290 : decode c_L_law 290 = .ok (.aload_n 0, 1) := by decide +kernel
theorem d_L_law_291 : decode c_L_law 291 = .ok (.iload_n 3, 1) := by decide +kernel
theorem d_L_law_292 : decode c_L_law 292 = .ok (.iconst 4, 1) := by decide +kernel
theorem d_L_law_293 : decode c_L_law 293 = .ok (.iadd, 1) := by decide +kernel
theorem d_L_law_294 : decode c_L_law 294 = .ok (.iaload, 1) := by decide +kernel
theorem d_L_law_295 : decode c_L_law 295 = .ok (.i2l, 1) := by decide +kernel
theorem d_L_law_296 : decode c_L_law 296 = .ok (.ldc2_w 23, 3) := by decide +kernel
theorem d_L_law_299 : decode c_L_law 299 = .ok (.land, 1) := by decide +kernel
theorem d_L_law_300 : decode c_L_law 300 = .ok (.lor, 1) := by decide +kernel
theorem d_L_law_301 : decode c_L_law 301 = .ok (.invokevirtual 35, 3) := by decide +kernel
theorem d_L_law_304 : decode c_L_law 304 = .ok (.aload_n 2, 1) := by decide +kernel
theorem d_L_law_305 : decode c_L_law 305 = .ok (.aload_n 0, 1) := by decide +kernel
theorem d_L_law_306 : decode c_L_law 306 = .ok (.iload_n 3, 1) := by decide +kernel
theorem d_L_law_307 : decode c_L_law 307 = .ok (.iconst 1, 1) := by decide +kernel
theorem d_L_law_308 : decode c_L_law 308 = .ok (.iadd, 1) := by decide +kernel
theorem d_L_law_309 : decode c_L_law 309 = .ok (.iaload, 1) := by decide +kernel
theorem d_L_law_310 : decode c_L_law 310 = .ok (.aload_n 0, 1) := by decide +kernel
theorem d_L_law_311 : decode c_L_law 311 = .ok (.iload_n 3, 1) := by decide +kernel
theorem d_L_law_312 : decode c_L_law 312 = .ok (.iconst 2, 1) := by decide +kernel
theorem d_L_law_313 : decode c_L_law 313 = .ok (.iadd, 1) := by decide +kernel
theorem d_L_law_314 : decode c_L_law 314 = .ok (.iaload, 1) := by decide +kernel
theorem d_L_law_315 : decode c_L_law 315 = .ok (.aload_n 0, 1) := by decide +kernel
theorem d_L_law_316 : decode c_L_law 316 = .ok (.iload_n 3, 1) := by decide +kernel
theorem d_L_law_317 : decode c_L_law 317 = .ok (.iconst 3, 1) := by decide +kernel
theorem d_L_law_318 : decode c_L_law 318 = .ok (.iadd, 1) := by decide +kernel
theorem d_L_law_319 : decode c_L_law 319 = .ok (.iaload, 1) := by decide +kernel
theorem d_L_law_320 : decode c_L_law 320 = .ok (.i2l, 1) := by decide +kernel
theorem d_L_law_321 : decode c_L_law 321 = .ok (.bipush 32, 2) := by decide +kernel
theorem d_L_law_323 : decode c_L_law 323 = .ok (.lshl, 1) := by decide +kernel
theorem d_L_law_324 : decode c_L_law 324 = .ok (.aload_n 0, 1) := by decide +kernel
theorem d_L_law_325 : decode c_L_law 325 = .ok (.iload_n 3, 1) := by decide +kernel
theorem d_L_law_326 : decode c_L_law 326 = .ok (.iconst 4, 1) := by decide +kernel
theorem d_L_law_327 : decode c_L_law 327 = .ok (.iadd, 1) := by decide +kernel
theorem d_L_law_328 : decode c_L_law 328 = .ok (.iaload, 1) := by decide +kernel
theorem d_L_law_329 : decode c_L_law 329 = .ok (.i2l, 1) := by decide +kernel
theorem d_L_law_330 : decode c_L_law 330 = .ok (.ldc2_w 23, 3) := by decide +kernel
theorem d_L_law_333 : decode c_L_law 333 = .ok (.land, 1) := by decide +kernel
theorem d_L_law_334 : decode c_L_law 334 = .ok (.lor, 1) := by decide +kernel
theorem d_L_law_335 : decode c_L_law 335 = .ok (.invokevirtual 39, 3) := by decide +kernel
theorem d_L_law_338 : decode c_L_law 338 = .ok (.if_icmp .eq 668, 3) := by decide +kernel
theorem d_L_law_341 : decode c_L_law 341 = .ok (.iconst 0, 1) := by decide +kernel
theorem d_L_law_342 : decode c_L_law 342 = .ok (.ireturn, 1) := by decide +kernel
theorem d_L_law_343 : decode c_L_law 343 = .ok (.aload_n 1, 1) := by decide +kernel
theorem d_L_law_344 : decode c_L_law 344 = .ok (.aload_n 0, 1) := by decide +kernel
theorem d_L_law_345 : decode c_L_law 345 = .ok (.iload_n 3, 1) := by decide +kernel
theorem d_L_law_346 : decode c_L_law 346 = .ok (.iconst 1, 1) := by decide +kernel
theorem d_L_law_347 : decode c_L_law 347 = .ok (.iadd, 1) := by decide +kernel
theorem d_L_law_348 : decode c_L_law 348 = .ok (.iaload, 1) := by decide +kernel
theorem d_L_law_349 : decode c_L_law 349 = .ok (.aload_n 0, 1) := by decide +kernel
theorem d_L_law_350 : decode c_L_law 350 = .ok (.iload_n 3, 1) := by decide +kernel
theorem d_L_law_351 : decode c_L_law 351 = .ok (.iconst 2, 1) := by decide +kernel
theorem d_L_law_352 : decode c_L_law 352 = .ok (.iadd, 1) := by decide +kernel
theorem d_L_law_353 : decode c_L_law 353 = .ok (.iaload, 1) := by decide +kernel
theorem d_L_law_354 : decode c_L_law 354 = .ok (.invokevirtual 40, 3) := by decide +kernel
theorem d_L_law_357 : decode c_L_law 357 = .ok (.aload_n 2, 1) := by decide +kernel
theorem d_L_law_358 : decode c_L_law 358 = .ok (.aload_n 0, 1) := by decide +kernel
theorem d_L_law_359 : decode c_L_law 359 = .ok (.iload_n 3, 1) := by decide +kernel
theorem d_L_law_360 : decode c_L_law 360 = .ok (.iconst 1, 1) := by decide +kernel
theorem d_L_law_361 : decode c_L_law 361 = .ok (.iadd, 1) := by decide +kernel
theorem d_L_law_362 : decode c_L_law 362 = .ok (.iaload, 1) := by decide +kernel
theorem d_L_law_363 : decode c_L_law 363 = .ok (.aload_n 0, 1) := by decide +kernel
theorem d_L_law_364 : decode c_L_law 364 = .ok (.iload_n 3, 1) := by decide +kernel
theorem d_L_law_365 : decode c_L_law 365 = .ok (.iconst 2, 1) := by decide +kernel
theorem d_L_law_366 : decode c_L_law 366 = .ok (.iadd, 1) := by decide +kernel
theorem d_L_law_367 : decode c_L_law 367 = .ok (.iaload, 1) := by decide +kernel
theorem d_L_law_368 : decode c_L_law 368 = .ok (.invokevirtual 44, 3) := by decide +kernel
theorem d_L_law_371 : decode c_L_law 371 = .ok (.lcmp, 1) := by decide +kernel
theorem d_L_law_372 : decode c_L_law 372 = .ok (.ifCond .eq 634, 3) := by decide +kernel
theorem d_L_law_375 : decode c_L_law 375 = .ok (.iconst 0, 1) := by decide +kernel
theorem d_L_law_376 : decode c_L_law 376 = .ok (.ireturn, 1) := by decide +kernel
theorem d_L_law_377 : decode c_L_law 377 = .ok (.aload_n 1, 1) := by decide +kernel
theorem d_L_law_378 : decode c_L_law 378 = .ok (.aload_n 0, 1) := by decide +kernel
theorem d_L_law_379 : decode c_L_law 379 = .ok (.iload_n 3, 1) := by decide +kernel
theorem d_L_law_380 : decode c_L_law 380 = .ok (.iconst 1, 1) := by decide +kernel
theorem d_L_law_381 : decode c_L_law 381 = .ok (.iadd, 1) := by decide +kernel
theorem d_L_law_382 : decode c_L_law 382 = .ok (.iaload, 1) := by decide +kernel
theorem d_L_law_383 : decode c_L_law 383 = .ok (.aload_n 0, 1) := by decide +kernel
theorem d_L_law_384 : decode c_L_law 384 = .ok (.iload_n 3, 1) := by decide +kernel
theorem d_L_law_385 : decode c_L_law 385 = .ok (.iconst 2, 1) := by decide +kernel
theorem d_L_law_386 : decode c_L_law 386 = .ok (.iadd, 1) := by decide +kernel
theorem d_L_law_387 : decode c_L_law 387 = .ok (.iaload, 1) := by decide +kernel
theorem d_L_law_388 : decode c_L_law 388 = .ok (.i2l, 1) := by decide +kernel
theorem d_L_law_389 : decode c_L_law 389 = .ok (.bipush 32, 2) := by decide +kernel
theorem d_L_law_391 : decode c_L_law 391 = .ok (.lshl, 1) := by decide +kernel
theorem d_L_law_392 : decode c_L_law 392 = .ok (.aload_n 0, 1) := by decide +kernel
theorem d_L_law_393 : decode c_L_law 393 = .ok (.iload_n 3, 1) := by decide +kernel
theorem d_L_law_394 : decode c_L_law 394 = .ok (.iconst 3, 1) := by decide +kernel
theorem d_L_law_395 : decode c_L_law 395 = .ok (.iadd, 1) := by decide +kernel
theorem d_L_law_396 : decode c_L_law 396 = .ok (.iaload, 1) := by decide +kernel
theorem d_L_law_397 : decode c_L_law 397 = .ok (.i2l, 1) := by decide +kernel
theorem d_L_law_398 : decode c_L_law 398 = .ok (.ldc2_w 23, 3) := by decide +kernel
theorem d_L_law_401 : decode c_L_law 401 = .ok (.land, 1) := by decide +kernel
theorem d_L_law_402 : decode c_L_law 402 = .ok (.lor, 1) := by decide +kernel
theorem d_L_law_403 : decode c_L_law 403 = .ok (.aload_n 0, 1) := by decide +kernel
theorem d_L_law_404 : decode c_L_law 404 = .ok (.iload_n 3, 1) := by decide +kernel
theorem d_L_law_405 : decode c_L_law 405 = .ok (.iconst 4, 1) := by decide +kernel
theorem d_L_law_406 : decode c_L_law 406 = .ok (.iadd, 1) := by decide +kernel
theorem d_L_law_407 : decode c_L_law 407 = .ok (.iaload, 1) := by decide +kernel
theorem d_L_law_408 : decode c_L_law 408 = .ok (.invokevirtual 45, 3) := by decide +kernel
theorem d_L_law_411 : decode c_L_law 411 = .ok (.aload_n 2, 1) := by decide +kernel
theorem d_L_law_412 : decode c_L_law 412 = .ok (.aload_n 0, 1) := by decide +kernel
theorem d_L_law_413 : decode c_L_law 413 = .ok (.iload_n 3, 1) := by decide +kernel
theorem d_L_law_414 : decode c_L_law 414 = .ok (.iconst 1, 1) := by decide +kernel
theorem d_L_law_415 : decode c_L_law 415 = .ok (.iadd, 1) := by decide +kernel
theorem d_L_law_416 : decode c_L_law 416 = .ok (.iaload, 1) := by decide +kernel
theorem d_L_law_417 : decode c_L_law 417 = .ok (.aload_n 0, 1) := by decide +kernel
theorem d_L_law_418 : decode c_L_law 418 = .ok (.iload_n 3, 1) := by decide +kernel
theorem d_L_law_419 : decode c_L_law 419 = .ok (.iconst 2, 1) := by decide +kernel
theorem d_L_law_420 : decode c_L_law 420 = .ok (.iadd, 1) := by decide +kernel
theorem d_L_law_421 : decode c_L_law 421 = .ok (.iaload, 1) := by decide +kernel
theorem d_L_law_422 : decode c_L_law 422 = .ok (.i2l, 1) := by decide +kernel
theorem d_L_law_423 : decode c_L_law 423 = .ok (.bipush 32, 2) := by decide +kernel
theorem d_L_law_425 : decode c_L_law 425 = .ok (.lshl, 1) := by decide +kernel
theorem d_L_law_426 : decode c_L_law 426 = .ok (.aload_n 0, 1) := by decide +kernel
theorem d_L_law_427 : decode c_L_law 427 = .ok (.iload_n 3, 1) := by decide +kernel
theorem d_L_law_428 : decode c_L_law 428 = .ok (.iconst 3, 1) := by decide +kernel
theorem d_L_law_429 : decode c_L_law 429 = .ok (.iadd, 1) := by decide +kernel
theorem d_L_law_430 : decode c_L_law 430 = .ok (.iaload, 1) := by decide +kernel
theorem d_L_law_431 : decode c_L_law 431 = .ok (.i2l, 1) := by decide +kernel
theorem d_L_law_432 : decode c_L_law 432 = .ok (.ldc2_w 23, 3) := by decide +kernel
theorem d_L_law_435 : decode c_L_law 435 = .ok (.land, 1) := by decide +kernel
theorem d_L_law_436 : decode c_L_law 436 = .ok (.lor, 1) := by decide +kernel
theorem d_L_law_437 : decode c_L_law 437 = .ok (.aload_n 0, 1) := by decide +kernel
theorem d_L_law_438 : decode c_L_law 438 = .ok (.iload_n 3, 1) := by decide +kernel
theorem d_L_law_439 : decode c_L_law 439 = .ok (.iconst 4, 1) := by decide +kernel
theorem d_L_law_440 : decode c_L_law 440 = .ok (.iadd, 1) := by decide +kernel
theorem d_L_law_441 : decode c_L_law 441 = .ok (.iaload, 1) := by decide +kernel
theorem d_L_law_442 : decode c_L_law 442 = .ok (.invokevirtual 49, 3) := by decide +kernel
theorem d_L_law_445 : decode c_L_law 445 = .ok (.if_icmp .eq 561, 3) := by decide +kernel
theorem d_L_law_448 : decode c_L_law 448 = .ok (.iconst 0, 1) := by decide +kernel
theorem d_L_law_449 : decode c_L_law 449 = .ok (.ireturn, 1) := by decide +kernel
theorem d_L_law_450 : decode c_L_law 450 = .ok (.aload_n 1, 1) := by decide +kernel
theorem d_L_law_451 : decode c_L_law 451 = .ok (.aload_n 0, 1) := by decide +kernel
theorem d_L_law_452 : decode c_L_law 452 = .ok (.iload_n 3, 1) := by decide +kernel
theorem d_L_law_453 : decode c_L_law 453 = .ok (.iconst 1, 1) := by decide +kernel
theorem d_L_law_454 : decode c_L_law 454 = .ok (.iadd, 1) := by decide +kernel
theorem d_L_law_455 : decode c_L_law 455 = .ok (.iaload, 1) := by decide +kernel
theorem d_L_law_456 : decode c_L_law 456 = .ok (.i2l, 1) := by decide +kernel
theorem d_L_law_457 : decode c_L_law 457 = .ok (.bipush 32, 2) := by decide +kernel
theorem d_L_law_459 : decode c_L_law 459 = .ok (.lshl, 1) := by decide +kernel
theorem d_L_law_460 : decode c_L_law 460 = .ok (.aload_n 0, 1) := by decide +kernel
theorem d_L_law_461 : decode c_L_law 461 = .ok (.iload_n 3, 1) := by decide +kernel
theorem d_L_law_462 : decode c_L_law 462 = .ok (.iconst 2, 1) := by decide +kernel
theorem d_L_law_463 : decode c_L_law 463 = .ok (.iadd, 1) := by decide +kernel
theorem d_L_law_464 : decode c_L_law 464 = .ok (.iaload, 1) := by decide +kernel
theorem d_L_law_465 : decode c_L_law 465 = .ok (.i2l, 1) := by decide +kernel
theorem d_L_law_466 : decode c_L_law 466 = .ok (.ldc2_w 23, 3) := by decide +kernel
theorem d_L_law_469 : decode c_L_law 469 = .ok (.land, 1) := by decide +kernel
theorem d_L_law_470 : decode c_L_law 470 = .ok (.lor, 1) := by decide +kernel
theorem d_L_law_471 : decode c_L_law 471 = .ok (.invokevirtual 50, 3) := by decide +kernel
theorem d_L_law_474 : decode c_L_law 474 = .ok (.aload_n 2, 1) := by decide +kernel
theorem d_L_law_475 : decode c_L_law 475 = .ok (.aload_n 0, 1) := by decide +kernel
theorem d_L_law_476 : decode c_L_law 476 = .ok (.iload_n 3, 1) := by decide +kernel
theorem d_L_law_477 : decode c_L_law 477 = .ok (.iconst 1, 1) := by decide +kernel
theorem d_L_law_478 : decode c_L_law 478 = .ok (.iadd, 1) := by decide +kernel
theorem d_L_law_479 : decode c_L_law 479 = .ok (.iaload, 1) := by decide +kernel
theorem d_L_law_480 : decode c_L_law 480 = .ok (.i2l, 1) := by decide +kernel
theorem d_L_law_481 : decode c_L_law 481 = .ok (.bipush 32, 2) := by decide +kernel
theorem d_L_law_483 : decode c_L_law 483 = .ok (.lshl, 1) := by decide +kernel
theorem d_L_law_484 : decode c_L_law 484 = .ok (.aload_n 0, 1) := by decide +kernel
theorem d_L_law_485 : decode c_L_law 485 = .ok (.iload_n 3, 1) := by decide +kernel
theorem d_L_law_486 : decode c_L_law 486 = .ok (.iconst 2, 1) := by decide +kernel
theorem d_L_law_487 : decode c_L_law 487 = .ok (.iadd, 1) := by decide +kernel
theorem d_L_law_488 : decode c_L_law 488 = .ok (.iaload, 1) := by decide +kernel
theorem d_L_law_489 : decode c_L_law 489 = .ok (.i2l, 1) := by decide +kernel
theorem d_L_law_490 : decode c_L_law 490 = .ok (.ldc2_w 23, 3) := by decide +kernel
theorem d_L_law_493 : decode c_L_law 493 = .ok (.land, 1) := by decide +kernel
theorem d_L_law_494 : decode c_L_law 494 = .ok (.lor, 1) := by decide +kernel
theorem d_L_law_495 : decode c_L_law 495 = .ok (.invokevirtual 54, 3) := by decide +kernel
theorem d_L_law_498 : decode c_L_law 498 = .ok (.if_icmp .eq 508, 3) := by decide +kernel
theorem d_L_law_501 : decode c_L_law 501 = .ok (.iconst 0, 1) := by decide +kernel
theorem d_L_law_502 : decode c_L_law 502 = .ok (.ireturn, 1) := by decide +kernel
theorem d_L_law_503 : decode c_L_law 503 = .ok (.aload_n 1, 1) := by decide +kernel
theorem d_L_law_504 : decode c_L_law 504 = .ok (.aload_n 0, 1) := by decide +kernel
theorem d_L_law_505 : decode c_L_law 505 = .ok (.iload_n 3, 1) := by decide +kernel
theorem d_L_law_506 : decode c_L_law 506 = .ok (.iconst 1, 1) := by decide +kernel
theorem d_L_law_507 : decode c_L_law 507 = .ok (.iadd, 1) := by decide +kernel
theorem d_L_law_508 : decode c_L_law 508 = .ok (.iaload, 1) := by decide +kernel
theorem d_L_law_509 : decode c_L_law 509 = .ok (.invokevirtual 55, 3) := by decide +kernel
theorem d_L_law_512 : decode c_L_law 512 = .ok (.aload_n 2, 1) := by decide +kernel
theorem d_L_law_513 : decode c_L_law 513 = .ok (.aload_n 0, 1) := by decide +kernel
theorem d_L_law_514 : decode c_L_law 514 = .ok (.iload_n 3, 1) := by decide +kernel
theorem d_L_law_515 : decode c_L_law 515 = .ok (.iconst 1, 1) := by decide +kernel
theorem d_L_law_516 : decode c_L_law 516 = .ok (.iadd, 1) := by decide +kernel
theorem d_L_law_517 : decode c_L_law 517 = .ok (.iaload, 1) := by decide +kernel
theorem d_L_law_518 : decode c_L_law 518 = .ok (.invokevirtual 59, 3) := by decide +kernel
theorem d_L_law_521 : decode c_L_law 521 = .ok (.lcmp, 1) := by decide +kernel
theorem d_L_law_522 : decode c_L_law 522 = .ok (.ifCond .eq 484, 3) := by decide +kernel
theorem d_L_law_525 : decode c_L_law 525 = .ok (.iconst 0, 1) := by decide +kernel
theorem d_L_law_526 : decode c_L_law 526 = .ok (.ireturn, 1) := by decide +kernel
theorem d_L_law_527 : decode c_L_law 527 = .ok (.aload_n 1, 1) := by decide +kernel
theorem d_L_law_528 : decode c_L_law 528 = .ok (.aload_n 0, 1) := by decide +kernel
theorem d_L_law_529 : decode c_L_law 529 = .ok (.iload_n 3, 1) := by decide +kernel
theorem d_L_law_530 : decode c_L_law 530 = .ok (.iconst 1, 1) := by decide +kernel
theorem d_L_law_531 : decode c_L_law 531 = .ok (.iadd, 1) := by decide +kernel
theorem d_L_law_532 : decode c_L_law 532 = .ok (.iaload, 1) := by decide +kernel
theorem d_L_law_533 : decode c_L_law 533 = .ok (.invokevirtual 60, 3) := by decide +kernel
theorem d_L_law_536 : decode c_L_law 536 = .ok (.aload_n 2, 1) := by decide +kernel
theorem d_L_law_537 : decode c_L_law 537 = .ok (.aload_n 0, 1) := by decide +kernel
theorem d_L_law_538 : decode c_L_law 538 = .ok (.iload_n 3, 1) := by decide +kernel
theorem d_L_law_539 : decode c_L_law 539 = .ok (.iconst 1, 1) := by decide +kernel
theorem d_L_law_540 : decode c_L_law 540 = .ok (.iadd, 1) := by decide +kernel
theorem d_L_law_541 : decode c_L_law 541 = .ok (.iaload, 1) := by decide +kernel
theorem d_L_law_542 : decode c_L_law 542 = .ok (.invokevirtual 63, 3) := by decide +kernel
theorem d_L_law_545 : decode c_L_law 545 = .ok (.lcmp, 1) := by decide +kernel
theorem d_L_law_546 : decode c_L_law 546 = .ok (.ifCond .eq 460, 3) := by decide +kernel
theorem d_L_law_549 : decode c_L_law 549 = .ok (.iconst 0, 1) := by decide +kernel
theorem d_L_law_550 : decode c_L_law 550 = .ok (.ireturn, 1) := by decide +kernel
theorem d_L_law_551 : decode c_L_law 551 = .ok (.aload_n 1, 1) := by decide +kernel
theorem d_L_law_552 : decode c_L_law 552 = .ok (.invokevirtual 64, 3) := by decide +kernel
theorem d_L_law_555 : decode c_L_law 555 = .ok (.aload_n 2, 1) := by decide +kernel
theorem d_L_law_556 : decode c_L_law 556 = .ok (.invokevirtual 68, 3) := by decide +kernel
theorem d_L_law_559 : decode c_L_law 559 = .ok (.if_icmp .eq 447, 3) := by decide +kernel
theorem d_L_law_562 : decode c_L_law 562 = .ok (.iconst 0, 1) := by decide +kernel
theorem d_L_law_563 : decode c_L_law 563 = .ok (.ireturn, 1) := by decide +kernel
theorem d_L_law_564 : decode c_L_law 564 = .ok (.aload_n 1, 1) := by decide +kernel
theorem d_L_law_565 : decode c_L_law 565 = .ok (.aload_n 0, 1) := by decide +kernel
theorem d_L_law_566 : decode c_L_law 566 = .ok (.iload_n 3, 1) := by decide +kernel
theorem d_L_law_567 : decode c_L_law 567 = .ok (.iconst 1, 1) := by decide +kernel
theorem d_L_law_568 : decode c_L_law 568 = .ok (.iadd, 1) := by decide +kernel
theorem d_L_law_569 : decode c_L_law 569 = .ok (.iaload, 1) := by decide +kernel
theorem d_L_law_570 : decode c_L_law 570 = .ok (.aload_n 0, 1) := by decide +kernel
theorem d_L_law_571 : decode c_L_law 571 = .ok (.iload_n 3, 1) := by decide +kernel
theorem d_L_law_572 : decode c_L_law 572 = .ok (.iconst 2, 1) := by decide +kernel
theorem d_L_law_573 : decode c_L_law 573 = .ok (.iadd, 1) := by decide +kernel
theorem d_L_law_574 : decode c_L_law 574 = .ok (.iaload, 1) := by decide +kernel
theorem d_L_law_575 : decode c_L_law 575 = .ok (.invokevirtual 69, 3) := by decide +kernel
theorem d_L_law_578 : decode c_L_law 578 = .ok (.aload_n 2, 1) := by decide +kernel
theorem d_L_law_579 : decode c_L_law 579 = .ok (.aload_n 0, 1) := by decide +kernel
theorem d_L_law_580 : decode c_L_law 580 = .ok (.iload_n 3, 1) := by decide +kernel
theorem d_L_law_581 : decode c_L_law 581 = .ok (.iconst 1, 1) := by decide +kernel
theorem d_L_law_582 : decode c_L_law 582 = .ok (.iadd, 1) := by decide +kernel
theorem d_L_law_583 : decode c_L_law 583 = .ok (.iaload, 1) := by decide +kernel
theorem d_L_law_584 : decode c_L_law 584 = .ok (.aload_n 0, 1) := by decide +kernel
theorem d_L_law_585 : decode c_L_law 585 = .ok (.iload_n 3, 1) := by decide +kernel
theorem d_L_law_586 : decode c_L_law 586 = .ok (.iconst 2, 1) := by decide +kernel
theorem d_L_law_587 : decode c_L_law 587 = .ok (.iadd, 1) := by decide +kernel
theorem d_L_law_588 : decode c_L_law 588 = .ok (.iaload, 1) := by decide +kernel
theorem d_L_law_589 : decode c_L_law 589 = .ok (.invokevirtual 73, 3) := by decide +kernel
theorem d_L_law_592 : decode c_L_law 592 = .ok (.if_icmp .eq 414, 3) := by decide +kernel
theorem d_L_law_595 : decode c_L_law 595 = .ok (.iconst 0, 1) := by decide +kernel
theorem d_L_law_596 : decode c_L_law 596 = .ok (.ireturn, 1) := by decide +kernel
theorem d_L_law_597 : decode c_L_law 597 = .ok (.aload_n 1, 1) := by decide +kernel
theorem d_L_law_598 : decode c_L_law 598 = .ok (.aload_n 0, 1) := by decide +kernel
theorem d_L_law_599 : decode c_L_law 599 = .ok (.iload_n 3, 1) := by decide +kernel
theorem d_L_law_600 : decode c_L_law 600 = .ok (.iconst 1, 1) := by decide +kernel
theorem d_L_law_601 : decode c_L_law 601 = .ok (.iadd, 1) := by decide +kernel
theorem d_L_law_602 : decode c_L_law 602 = .ok (.iaload, 1) := by decide +kernel
theorem d_L_law_603 : decode c_L_law 603 = .ok (.aload_n 0, 1) := by decide +kernel
theorem d_L_law_604 : decode c_L_law 604 = .ok (.iload_n 3, 1) := by decide +kernel
theorem d_L_law_605 : decode c_L_law 605 = .ok (.iconst 2, 1) := by decide +kernel
theorem d_L_law_606 : decode c_L_law 606 = .ok (.iadd, 1) := by decide +kernel
theorem d_L_law_607 : decode c_L_law 607 = .ok (.iaload, 1) := by decide +kernel
theorem d_L_law_608 : decode c_L_law 608 = .ok (.i2l, 1) := by decide +kernel
theorem d_L_law_609 : decode c_L_law 609 = .ok (.bipush 32, 2) := by decide +kernel
theorem d_L_law_611 : decode c_L_law 611 = .ok (.lshl, 1) := by decide +kernel
theorem d_L_law_612 : decode c_L_law 612 = .ok (.aload_n 0, 1) := by decide +kernel
theorem d_L_law_613 : decode c_L_law 613 = .ok (.iload_n 3, 1) := by decide +kernel
theorem d_L_law_614 : decode c_L_law 614 = .ok (.iconst 3, 1) := by decide +kernel
theorem d_L_law_615 : decode c_L_law 615 = .ok (.iadd, 1) := by decide +kernel
theorem d_L_law_616 : decode c_L_law 616 = .ok (.iaload, 1) := by decide +kernel
theorem d_L_law_617 : decode c_L_law 617 = .ok (.i2l, 1) := by decide +kernel
theorem d_L_law_618 : decode c_L_law 618 = .ok (.ldc2_w 23, 3) := by decide +kernel
theorem d_L_law_621 : decode c_L_law 621 = .ok (.land, 1) := by decide +kernel
theorem d_L_law_622 : decode c_L_law 622 = .ok (.lor, 1) := by decide +kernel
theorem d_L_law_623 : decode c_L_law 623 = .ok (.aload_n 0, 1) := by decide +kernel
theorem d_L_law_624 : decode c_L_law 624 = .ok (.iload_n 3, 1) := by decide +kernel
theorem d_L_law_625 : decode c_L_law 625 = .ok (.iconst 4, 1) := by decide +kernel
theorem d_L_law_626 : decode c_L_law 626 = .ok (.iadd, 1) := by decide +kernel
theorem d_L_law_627 : decode c_L_law 627 = .ok (.iaload, 1) := by decide +kernel
theorem d_L_law_628 : decode c_L_law 628 = .ok (.i2l, 1) := by decide +kernel
theorem d_L_law_629 : decode c_L_law 629 = .ok (.bipush 32, 2) := by decide +kernel
theorem d_L_law_631 : decode c_L_law 631 = .ok (.lshl, 1) := by decide +kernel
theorem d_L_law_632 : decode c_L_law 632 = .ok (.aload_n 0, 1) := by decide +kernel
theorem d_L_law_633 : decode c_L_law 633 = .ok (.iload_n 3, 1) := by decide +kernel
theorem d_L_law_634 : decode c_L_law 634 = .ok (.iconst 5, 1) := by decide +kernel
theorem d_L_law_635 : decode c_L_law 635 = .ok (.iadd, 1) := by decide +kernel
theorem d_L_law_636 : decode c_L_law 636 = .ok (.iaload, 1) := by decide +kernel
theorem d_L_law_637 : decode c_L_law 637 = .ok (.i2l, 1) := by decide +kernel
theorem d_L_law_638 : decode c_L_law 638 = .ok (.ldc2_w 23, 3) := by decide +kernel
theorem d_L_law_641 : decode c_L_law 641 = .ok (.land, 1) := by decide +kernel
theorem d_L_law_642 : decode c_L_law 642 = .ok (.lor, 1) := by decide +kernel
theorem d_L_law_643 : decode c_L_law 643 = .ok (.aload_n 0, 1) := by decide +kernel
theorem d_L_law_644 : decode c_L_law 644 = .ok (.iload_n 3, 1) := by decide +kernel
theorem d_L_law_645 : decode c_L_law 645 = .ok (.bipush 6, 2) := by decide +kernel
theorem d_L_law_647 : decode c_L_law 647 = .ok (.iadd, 1) := by decide +kernel
theorem d_L_law_648 : decode c_L_law 648 = .ok (.iaload, 1) := by decide +kernel
theorem d_L_law_649 : decode c_L_law 649 = .ok (.i2l, 1) := by decide +kernel
theorem d_L_law_650 : decode c_L_law 650 = .ok (.bipush 32, 2) := by decide +kernel
theorem d_L_law_652 : decode c_L_law 652 = .ok (.lshl, 1) := by decide +kernel
theorem d_L_law_653 : decode c_L_law 653 = .ok (.aload_n 0, 1) := by decide +kernel
theorem d_L_law_654 : decode c_L_law 654 = .ok (.iload_n 3, 1) := by decide +kernel
theorem d_L_law_655 : decode c_L_law 655 = .ok (.bipush 7, 2) := by decide +kernel
theorem d_L_law_657 : decode c_L_law 657 = .ok (.iadd, 1) := by decide +kernel
theorem d_L_law_658 : decode c_L_law 658 = .ok (.iaload, 1) := by decide +kernel
theorem d_L_law_659 : decode c_L_law 659 = .ok (.i2l, 1) := by decide +kernel
theorem d_L_law_660 : decode c_L_law 660 = .ok (.ldc2_w 23, 3) := by decide +kernel
theorem d_L_law_663 : decode c_L_law 663 = .ok (.land, 1) := by decide +kernel
theorem d_L_law_664 : decode c_L_law 664 = .ok (.lor, 1) := by decide +kernel
theorem d_L_law_665 : decode c_L_law 665 = .ok (.invokevirtual 74, 3) := by decide +kernel
theorem d_L_law_668 : decode c_L_law 668 = .ok (.aload_n 2, 1) := by decide +kernel
theorem d_L_law_669 : decode c_L_law 669 = .ok (.aload_n 0, 1) := by decide +kernel
theorem d_L_law_670 : decode c_L_law 670 = .ok (.iload_n 3, 1) := by decide +kernel
theorem d_L_law_671 : decode c_L_law 671 = .ok (.iconst 1, 1) := by decide +kernel
theorem d_L_law_672 : decode c_L_law 672 = .ok (.iadd, 1) := by decide +kernel
theorem d_L_law_673 : decode c_L_law 673 = .ok (.iaload, 1) := by decide +kernel
theorem d_L_law_674 : decode c_L_law 674 = .ok (.aload_n 0, 1) := by decide +kernel
theorem d_L_law_675 : decode c_L_law 675 = .ok (.iload_n 3, 1) := by decide +kernel
theorem d_L_law_676 : decode c_L_law 676 = .ok (.iconst 2, 1) := by decide +kernel
theorem d_L_law_677 : decode c_L_law 677 = .ok (.iadd, 1) := by decide +kernel
theorem d_L_law_678 : decode c_L_law 678 = .ok (.iaload, 1) := by decide +kernel
theorem d_L_law_679 : decode c_L_law 679 = .ok (.i2l, 1) := by decide +kernel
theorem d_L_law_680 : decode c_L_law 680 = .ok (.bipush 32, 2) := by decide +kernel
theorem d_L_law_682 : decode c_L_law 682 = .ok (.lshl, 1) := by decide +kernel
theorem d_L_law_683 : decode c_L_law 683 = .ok (.aload_n 0, 1) := by decide +kernel
theorem d_L_law_684 : decode c_L_law 684 = .ok (.iload_n 3, 1) := by decide +kernel
theorem d_L_law_685 : decode c_L_law 685 = .ok (.iconst 3, 1) := by decide +kernel
theorem d_L_law_686 : decode c_L_law 686 = .ok (.iadd, 1) := by decide +kernel
theorem d_L_law_687 : decode c_L_law 687 = .ok (.iaload, 1) := by decide +kernel
theorem d_L_law_688 : decode c_L_law 688 = .ok (.i2l, 1) := by decide +kernel
theorem d_L_law_689 : decode c_L_law 689 = .ok (.ldc2_w 23, 3) := by decide +kernel
theorem d_L_law_692 : decode c_L_law 692 = .ok (.land, 1) := by decide +kernel
theorem d_L_law_693 : decode c_L_law 693 = .ok (.lor, 1) := by decide +kernel
theorem d_L_law_694 : decode c_L_law 694 = .ok (.aload_n 0, 1) := by decide +kernel
theorem d_L_law_695 : decode c_L_law 695 = .ok (.iload_n 3, 1) := by decide +kernel
theorem d_L_law_696 : decode c_L_law 696 = .ok (.iconst 4, 1) := by decide +kernel
theorem d_L_law_697 : decode c_L_law 697 = .ok (.iadd, 1) := by decide +kernel
theorem d_L_law_698 : decode c_L_law 698 = .ok (.iaload, 1) := by decide +kernel
theorem d_L_law_699 : decode c_L_law 699 = .ok (.i2l, 1) := by decide +kernel
theorem d_L_law_700 : decode c_L_law 700 = .ok (.bipush 32, 2) := by decide +kernel
theorem d_L_law_702 : decode c_L_law 702 = .ok (.lshl, 1) := by decide +kernel
theorem d_L_law_703 : decode c_L_law 703 = .ok (.aload_n 0, 1) := by decide +kernel
theorem d_L_law_704 : decode c_L_law 704 = .ok (.iload_n 3, 1) := by decide +kernel
theorem d_L_law_705 : decode c_L_law 705 = .ok (.iconst 5, 1) := by decide +kernel
theorem d_L_law_706 : decode c_L_law 706 = .ok (.iadd, 1) := by decide +kernel
theorem d_L_law_707 : decode c_L_law 707 = .ok (.iaload, 1) := by decide +kernel
theorem d_L_law_708 : decode c_L_law 708 = .ok (.i2l, 1) := by decide +kernel
theorem d_L_law_709 : decode c_L_law 709 = .ok (.ldc2_w 23, 3) := by decide +kernel
theorem d_L_law_712 : decode c_L_law 712 = .ok (.land, 1) := by decide +kernel
theorem d_L_law_713 : decode c_L_law 713 = .ok (.lor, 1) := by decide +kernel
theorem d_L_law_714 : decode c_L_law 714 = .ok (.aload_n 0, 1) := by decide +kernel
theorem d_L_law_715 : decode c_L_law 715 = .ok (.iload_n 3, 1) := by decide +kernel
theorem d_L_law_716 : decode c_L_law 716 = .ok (.bipush 6, 2) := by decide +kernel
theorem d_L_law_718 : decode c_L_law 718 = .ok (.iadd, 1) := by decide +kernel
theorem d_L_law_719 : decode c_L_law 719 = .ok (.iaload, 1) := by decide +kernel
theorem d_L_law_720 : decode c_L_law 720 = .ok (.i2l, 1) := by decide +kernel
theorem d_L_law_721 : decode c_L_law 721 = .ok (.bipush 32, 2) := by decide +kernel
theorem d_L_law_723 : decode c_L_law 723 = .ok (.lshl, 1) := by decide +kernel
theorem d_L_law_724 : decode c_L_law 724 = .ok (.aload_n 0, 1) := by decide +kernel
theorem d_L_law_725 : decode c_L_law 725 = .ok (.iload_n 3, 1) := by decide +kernel
theorem d_L_law_726 : decode c_L_law 726 = .ok (.bipush 7, 2) := by decide +kernel
theorem d_L_law_728 : decode c_L_law 728 = .ok (.iadd, 1) := by decide +kernel
theorem d_L_law_729 : decode c_L_law 729 = .ok (.iaload, 1) := by decide +kernel
theorem d_L_law_730 : decode c_L_law 730 = .ok (.i2l, 1) := by decide +kernel
theorem d_L_law_731 : decode c_L_law 731 = .ok (.ldc2_w 23, 3) := by decide +kernel
theorem d_L_law_734 : decode c_L_law 734 = .ok (.land, 1) := by decide +kernel
theorem d_L_law_735 : decode c_L_law 735 = .ok (.lor, 1) := by decide +kernel
theorem d_L_law_736 : decode c_L_law 736 = .ok (.invokevirtual 78, 3) := by decide +kernel
theorem d_L_law_739 : decode c_L_law 739 = .ok (.if_icmp .eq 267, 3) := by decide +kernel
theorem d_L_law_742 : decode c_L_law 742 = .ok (.iconst 0, 1) := by decide +kernel
theorem d_L_law_743 : decode c_L_law 743 = .ok (.ireturn, 1) := by decide +kernel
theorem d_L_law_744 : decode c_L_law 744 = .ok (.aload_n 1, 1) := by decide +kernel
theorem d_L_law_745 : decode c_L_law 745 = .ok (.aload_n 0, 1) := by decide +kernel
theorem d_L_law_746 : decode c_L_law 746 = .ok (.iload_n 3, 1) := by decide +kernel
theorem d_L_law_747 : decode c_L_law 747 = .ok (.iconst 1, 1) := by decide +kernel
theorem d_L_law_748 : decode c_L_law 748 = .ok (.iadd, 1) := by decide +kernel
theorem d_L_law_749 : decode c_L_law 749 = .ok (.iaload, 1) := by decide +kernel
theorem d_L_law_750 : decode c_L_law 750 = .ok (.aload_n 0, 1) := by decide +kernel
theorem d_L_law_751 : decode c_L_law 751 = .ok (.iload_n 3, 1) := by decide +kernel
theorem d_L_law_752 : decode c_L_law 752 = .ok (.iconst 2, 1) := by decide +kernel
theorem d_L_law_753 : decode c_L_law 753 = .ok (.iadd, 1) := by decide +kernel
theorem d_L_law_754 : decode c_L_law 754 = .ok (.iaload, 1) := by decide +kernel
theorem d_L_law_755 : decode c_L_law 755 = .ok (.invokevirtual 79, 3) := by decide +kernel
theorem d_L_law_758 : decode c_L_law 758 = .ok (.aload_n 2, 1) := by decide +kernel
theorem d_L_law_759 : decode c_L_law 759 = .ok (.aload_n 0, 1) := by decide +kernel
theorem d_L_law_760 : decode c_L_law 760 = .ok (.iload_n 3, 1) := by decide +kernel
theorem d_L_law_761 : decode c_L_law 761 = .ok (.iconst 1, 1) := by decide +kernel
theorem d_L_law_762 : decode c_L_law 762 = .ok (.iadd, 1) := by decide +kernel
theorem d_L_law_763 : decode c_L_law 763 = .ok (.iaload, 1) := by decide +kernel
theorem d_L_law_764 : decode c_L_law 764 = .ok (.aload_n 0, 1) := by decide +kernel
theorem d_L_law_765 : decode c_L_law 765 = .ok (.iload_n 3, 1) := by decide +kernel
theorem d_L_law_766 : decode c_L_law 766 = .ok (.iconst 2, 1) := by decide +kernel
theorem d_L_law_767 : decode c_L_law 767 = .ok (.iadd, 1) := by decide +kernel
theorem d_L_law_768 : decode c_L_law 768 = .ok (.iaload, 1) := by decide +kernel
theorem d_L_law_769 : decode c_L_law 769 = .ok (.invokevirtual 82, 3) := by decide +kernel
theorem d_L_law_772 : decode c_L_law 772 = .ok (.if_icmp .eq 234, 3) := by decide +kernel
theorem d_L_law_775 : decode c_L_law 775 = .ok (.iconst 0, 1) := by decide +kernel
theorem d_L_law_776 : decode c_L_law 776 = .ok (.ireturn, 1) := by decide +kernel
theorem d_L_law_777 : decode c_L_law 777 = .ok (.aload_n 1, 1) := by decide +kernel
theorem d_L_law_778 : decode c_L_law 778 = .ok (.aload_n 0, 1) := by decide +kernel
theorem d_L_law_779 : decode c_L_law 779 = .ok (.iload_n 3, 1) := by decide +kernel
theorem d_L_law_780 : decode c_L_law 780 = .ok (.iconst 1, 1) := by decide +kernel
theorem d_L_law_781 : decode c_L_law 781 = .ok (.iadd, 1) := by decide +kernel
theorem d_L_law_782 : decode c_L_law 782 = .ok (.iaload, 1) := by decide +kernel
theorem d_L_law_783 : decode c_L_law 783 = .ok (.aload_n 0, 1) := by decide +kernel
theorem d_L_law_784 : decode c_L_law 784 = .ok (.iload_n 3, 1) := by decide +kernel
theorem d_L_law_785 : decode c_L_law 785 = .ok (.iconst 2, 1) := by decide +kernel
theorem d_L_law_786 : decode c_L_law 786 = .ok (.iadd, 1) := by decide +kernel
theorem d_L_law_787 : decode c_L_law 787 = .ok (.iaload, 1) := by decide +kernel
theorem d_L_law_788 : decode c_L_law 788 = .ok (.invokevirtual 83, 3) := by decide +kernel
theorem d_L_law_791 : decode c_L_law 791 = .ok (.aload_n 2, 1) := by decide +kernel
theorem d_L_law_792 : decode c_L_law 792 = .ok (.aload_n 0, 1) := by decide +kernel
theorem d_L_law_793 : decode c_L_law 793 = .ok (.iload_n 3, 1) := by decide +kernel
theorem d_L_law_794 : decode c_L_law 794 = .ok (.iconst 1, 1) := by decide +kernel
theorem d_L_law_795 : decode c_L_law 795 = .ok (.iadd, 1) := by decide +kernel
theorem d_L_law_796 : decode c_L_law 796 = .ok (.iaload, 1) := by decide +kernel
theorem d_L_law_797 : decode c_L_law 797 = .ok (.aload_n 0, 1) := by decide +kernel
theorem d_L_law_798 : decode c_L_law 798 = .ok (.iload_n 3, 1) := by decide +kernel
theorem d_L_law_799 : decode c_L_law 799 = .ok (.iconst 2, 1) := by decide +kernel
theorem d_L_law_800 : decode c_L_law 800 = .ok (.iadd, 1) := by decide +kernel
theorem d_L_law_801 : decode c_L_law 801 = .ok (.iaload, 1) := by decide +kernel
theorem d_L_law_802 : decode c_L_law 802 = .ok (.invokevirtual 86, 3) := by decide +kernel
theorem d_L_law_805 : decode c_L_law 805 = .ok (.if_icmp .eq 201, 3) := by decide +kernel
theorem d_L_law_808 : decode c_L_law 808 = .ok (.iconst 0, 1) := by decide +kernel
theorem d_L_law_809 : decode c_L_law 809 = .ok (.ireturn, 1) := by decide +kernel
theorem d_L_law_810 : decode c_L_law 810 = .ok (.aload_n 1, 1) := by decide +kernel
theorem d_L_law_811 : decode c_L_law 811 = .ok (.aload_n 0, 1) := by decide +kernel
theorem d_L_law_812 : decode c_L_law 812 = .ok (.iload_n 3, 1) := by decide +kernel
theorem d_L_law_813 : decode c_L_law 813 = .ok (.iconst 1, 1) := by decide +kernel
theorem d_L_law_814 : decode c_L_law 814 = .ok (.iadd, 1) := by decide +kernel
theorem d_L_law_815 : decode c_L_law 815 = .ok (.iaload, 1) := by decide +kernel
theorem d_L_law_816 : decode c_L_law 816 = .ok (.aload_n 0, 1) := by decide +kernel
theorem d_L_law_817 : decode c_L_law 817 = .ok (.iload_n 3, 1) := by decide +kernel
theorem d_L_law_818 : decode c_L_law 818 = .ok (.iconst 2, 1) := by decide +kernel
theorem d_L_law_819 : decode c_L_law 819 = .ok (.iadd, 1) := by decide +kernel
theorem d_L_law_820 : decode c_L_law 820 = .ok (.iaload, 1) := by decide +kernel
theorem d_L_law_821 : decode c_L_law 821 = .ok (.i2l, 1) := by decide +kernel
theorem d_L_law_822 : decode c_L_law 822 = .ok (.bipush 32, 2) := by decide +kernel
theorem d_L_law_824 : decode c_L_law 824 = .ok (.lshl, 1) := by decide +kernel
theorem d_L_law_825 : decode c_L_law 825 = .ok (.aload_n 0, 1) := by decide +kernel
theorem d_L_law_826 : decode c_L_law 826 = .ok (.iload_n 3, 1) := by decide +kernel
theorem d_L_law_827 : decode c_L_law 827 = .ok (.iconst 3, 1) := by decide +kernel
theorem d_L_law_828 : decode c_L_law 828 = .ok (.iadd, 1) := by decide +kernel
theorem d_L_law_829 : decode c_L_law 829 = .ok (.iaload, 1) := by decide +kernel
theorem d_L_law_830 : decode c_L_law 830 = .ok (.i2l, 1) := by decide +kernel
theorem d_L_law_831 : decode c_L_law 831 = .ok (.ldc2_w 23, 3) := by decide +kernel
theorem d_L_law_834 : decode c_L_law 834 = .ok (.land, 1) := by decide +kernel
theorem d_L_law_835 : decode c_L_law 835 = .ok (.lor, 1) := by decide +kernel
theorem d_L_law_836 : decode c_L_law 836 = .ok (.invokevirtual 87, 3) := by decide +kernel
theorem d_L_law_839 : decode c_L_law 839 = .ok (.aload_n 2, 1) := by decide +kernel
theorem d_L_law_840 : decode c_L_law 840 = .ok (.aload_n 0, 1) := by decide +kernel
theorem d_L_law_841 : decode c_L_law 841 = .ok (.iload_n 3, 1) := by decide +kernel
theorem d_L_law_842 : decode c_L_law 842 = .ok (.iconst 1, 1) := by decide +kernel
theorem d_L_law_843 : decode c_L_law 843 = .ok (.iadd, 1) := by decide +kernel
theorem d_L_law_844 : decode c_L_law 844 = .ok (.iaload, 1) := by decide +kernel
theorem d_L_law_845 : decode c_L_law 845 = .ok (.aload_n 0, 1) := by decide +kernel
theorem d_L_law_846 : decode c_L_law 846 = .ok (.iload_n 3, 1) := by decide +kernel
theorem d_L_law_847 : decode c_L_law 847 = .ok (.iconst 2, 1) := by decide +kernel
theorem d_L_law_848 : decode c_L_law 848 = .ok (.iadd, 1) := by decide +kernel
theorem d_L_law_849 : decode c_L_law 849 = .ok (.iaload, 1) := by decide +kernel
theorem d_L_law_850 : decode c_L_law 850 = .ok (.i2l, 1) := by decide +kernel
theorem d_L_law_851 : decode c_L_law 851 = .ok (.bipush 32, 2) := by decide +kernel
theorem d_L_law_853 : decode c_L_law 853 = .ok (.lshl, 1) := by decide +kernel
theorem d_L_law_854 : decode c_L_law 854 = .ok (.aload_n 0, 1) := by decide +kernel
theorem d_L_law_855 : decode c_L_law 855 = .ok (.iload_n 3, 1) := by decide +kernel
theorem d_L_law_856 : decode c_L_law 856 = .ok (.iconst 3, 1) := by decide +kernel
theorem d_L_law_857 : decode c_L_law 857 = .ok (.iadd, 1) := by decide +kernel
theorem d_L_law_858 : decode c_L_law 858 = .ok (.iaload, 1) := by decide +kernel
theorem d_L_law_859 : decode c_L_law 859 = .ok (.i2l, 1) := by decide +kernel
theorem d_L_law_860 : decode c_L_law 860 = .ok (.ldc2_w 23, 3) := by decide +kernel
theorem d_L_law_863 : decode c_L_law 863 = .ok (.land, 1) := by decide +kernel
theorem d_L_law_864 : decode c_L_law 864 = .ok (.lor, 1) := by decide +kernel
theorem d_L_law_865 : decode c_L_law 865 = .ok (.invokevirtual 91, 3) := by decide +kernel
theorem d_L_law_868 : decode c_L_law 868 = .ok (.if_icmp .eq 138, 3) := by decide +kernel
theorem d_L_law_871 : decode c_L_law 871 = .ok (.iconst 0, 1) := by decide +kernel
theorem d_L_law_872 : decode c_L_law 872 = .ok (.ireturn, 1) := by decide +kernel
theorem d_L_law_873 : decode c_L_law 873 = .ok (.aload_n 1, 1) := by decide +kernel
theorem d_L_law_874 : decode c_L_law 874 = .ok (.aload_n 0, 1) := by decide +kernel
theorem d_L_law_875 : decode c_L_law 875 = .ok (.iload_n 3, 1) := by decide +kernel
theorem d_L_law_876 : decode c_L_law 876 = .ok (.iconst 1, 1) := by decide +kernel
theorem d_L_law_877 : decode c_L_law 877 = .ok (.iadd, 1) := by decide +kernel
theorem d_L_law_878 : decode c_L_law 878 = .ok (.iaload, 1) := by decide +kernel
theorem d_L_law_879 : decode c_L_law 879 = .ok (.aload_n 0, 1) := by decide +kernel
theorem d_L_law_880 : decode c_L_law 880 = .ok (.iload_n 3, 1) := by decide +kernel
theorem d_L_law_881 : decode c_L_law 881 = .ok (.iconst 2, 1) := by decide +kernel
theorem d_L_law_882 : decode c_L_law 882 = .ok (.iadd, 1) := by decide +kernel
theorem d_L_law_883 : decode c_L_law 883 = .ok (.iaload, 1) := by decide +kernel
theorem d_L_law_884 : decode c_L_law 884 = .ok (.invokevirtual 92, 3) := by decide +kernel
theorem d_L_law_887 : decode c_L_law 887 = .ok (.aload_n 2, 1) := by decide +kernel
theorem d_L_law_888 : decode c_L_law 888 = .ok (.aload_n 0, 1) := by decide +kernel
theorem d_L_law_889 : decode c_L_law 889 = .ok (.iload_n 3, 1) := by decide +kernel
theorem d_L_law_890 : decode c_L_law 890 = .ok (.iconst 1, 1) := by decide +kernel
theorem d_L_law_891 : decode c_L_law 891 = .ok (.iadd, 1) := by decide +kernel
theorem d_L_law_892 : decode c_L_law 892 = .ok (.iaload, 1) := by decide +kernel
theorem d_L_law_893 : decode c_L_law 893 = .ok (.aload_n 0, 1) := by decide +kernel
theorem d_L_law_894 : decode c_L_law 894 = .ok (.iload_n 3, 1) := by decide +kernel
theorem d_L_law_895 : decode c_L_law 895 = .ok (.iconst 2, 1) := by decide +kernel
theorem d_L_law_896 : decode c_L_law 896 = .ok (.iadd, 1) := by decide +kernel
theorem d_L_law_897 : decode c_L_law 897 = .ok (.iaload, 1) := by decide +kernel
theorem d_L_law_898 : decode c_L_law 898 = .ok (.invokevirtual 95, 3) := by decide +kernel
theorem d_L_law_901 : decode c_L_law 901 = .ok (.lcmp, 1) := by decide +kernel
theorem d_L_law_902 : decode c_L_law 902 = .ok (.ifCond .eq 104, 3) := by decide +kernel
theorem d_L_law_905 : decode c_L_law 905 = .ok (.iconst 0, 1) := by decide +kernel
theorem d_L_law_906 : decode c_L_law 906 = .ok (.ireturn, 1) := by decide +kernel
theorem d_L_law_907 : decode c_L_law 907 = .ok (.aload_n 1, 1) := by decide +kernel
theorem d_L_law_908 : decode c_L_law 908 = .ok (.aload_n 0, 1) := by decide +kernel
theorem d_L_law_909 : decode c_L_law 909 = .ok (.iload_n 3, 1) := by decide +kernel
theorem d_L_law_910 : decode c_L_law 910 = .ok (.iconst 1, 1) := by decide +kernel
theorem d_L_law_911 : decode c_L_law 911 = .ok (.iadd, 1) := by decide +kernel
theorem d_L_law_912 : decode c_L_law 912 = .ok (.iaload, 1) := by decide +kernel
theorem d_L_law_913 : decode c_L_law 913 = .ok (.aload_n 0, 1) := by decide +kernel
theorem d_L_law_914 : decode c_L_law 914 = .ok (.iload_n 3, 1) := by decide +kernel
theorem d_L_law_915 : decode c_L_law 915 = .ok (.iconst 2, 1) := by decide +kernel
theorem d_L_law_916 : decode c_L_law 916 = .ok (.iadd, 1) := by decide +kernel
theorem d_L_law_917 : decode c_L_law 917 = .ok (.iaload, 1) := by decide +kernel
theorem d_L_law_918 : decode c_L_law 918 = .ok (.invokevirtual 96, 3) := by decide +kernel
theorem d_L_law_921 : decode c_L_law 921 = .ok (.aload_n 2, 1) := by decide +kernel
theorem d_L_law_922 : decode c_L_law 922 = .ok (.aload_n 0, 1) := by decide +kernel
theorem d_L_law_923 : decode c_L_law 923 = .ok (.iload_n 3, 1) := by decide +kernel
theorem d_L_law_924 : decode c_L_law 924 = .ok (.iconst 1, 1) := by decide +kernel
theorem d_L_law_925 : decode c_L_law 925 = .ok (.iadd, 1) := by decide +kernel
theorem d_L_law_926 : decode c_L_law 926 = .ok (.iaload, 1) := by decide +kernel
theorem d_L_law_927 : decode c_L_law 927 = .ok (.aload_n 0, 1) := by decide +kernel
theorem d_L_law_928 : decode c_L_law 928 = .ok (.iload_n 3, 1) := by decide +kernel
theorem d_L_law_929 : decode c_L_law 929 = .ok (.iconst 2, 1) := by decide +kernel
theorem d_L_law_930 : decode c_L_law 930 = .ok (.iadd, 1) := by decide +kernel
theorem d_L_law_931 : decode c_L_law 931 = .ok (.iaload, 1) := by decide +kernel
theorem d_L_law_932 : decode c_L_law 932 = .ok (.invokevirtual 99, 3) := by decide +kernel
theorem d_L_law_935 : decode c_L_law 935 = .ok (.if_icmp .eq 71, 3) := by decide +kernel
theorem d_L_law_938 : decode c_L_law 938 = .ok (.iconst 0, 1) := by decide +kernel
theorem d_L_law_939 : decode c_L_law 939 = .ok (.ireturn, 1) := by decide +kernel
theorem d_L_law_940 : decode c_L_law 940 = .ok (.aload_n 1, 1) := by decide +kernel
theorem d_L_law_941 : decode c_L_law 941 = .ok (.aload_n 0, 1) := by decide +kernel
theorem d_L_law_942 : decode c_L_law 942 = .ok (.iload_n 3, 1) := by decide +kernel
theorem d_L_law_943 : decode c_L_law 943 = .ok (.iconst 1, 1) := by decide +kernel
theorem d_L_law_944 : decode c_L_law 944 = .ok (.iadd, 1) := by decide +kernel
theorem d_L_law_945 : decode c_L_law 945 = .ok (.iaload, 1) := by decide +kernel
theorem d_L_law_946 : decode c_L_law 946 = .ok (.aload_n 0, 1) := by decide +kernel
theorem d_L_law_947 : decode c_L_law 947 = .ok (.iload_n 3, 1) := by decide +kernel
theorem d_L_law_948 : decode c_L_law 948 = .ok (.iconst 2, 1) := by decide +kernel
theorem d_L_law_949 : decode c_L_law 949 = .ok (.iadd, 1) := by decide +kernel
theorem d_L_law_950 : decode c_L_law 950 = .ok (.iaload, 1) := by decide +kernel
theorem d_L_law_951 : decode c_L_law 951 = .ok (.aload_n 0, 1) := by decide +kernel
theorem d_L_law_952 : decode c_L_law 952 = .ok (.iload_n 3, 1) := by decide +kernel
theorem d_L_law_953 : decode c_L_law 953 = .ok (.iconst 3, 1) := by decide +kernel
theorem d_L_law_954 : decode c_L_law 954 = .ok (.iadd, 1) := by decide +kernel
theorem d_L_law_955 : decode c_L_law 955 = .ok (.iaload, 1) := by decide +kernel
theorem d_L_law_956 : decode c_L_law 956 = .ok (.invokevirtual 100, 3) := by decide +kernel
theorem d_L_law_959 : decode c_L_law 959 = .ok (.aload_n 2, 1) := by decide +kernel
theorem d_L_law_960 : decode c_L_law 960 = .ok (.aload_n 0, 1) := by decide +kernel
theorem d_L_law_961 : decode c_L_law 961 = .ok (.iload_n 3, 1) := by decide +kernel
theorem d_L_law_962 : decode c_L_law 962 = .ok (.iconst 1, 1) := by decide +kernel
theorem d_L_law_963 : decode c_L_law 963 = .ok (.iadd, 1) := by decide +kernel
theorem d_L_law_964 : decode c_L_law 964 = .ok (.iaload, 1) := by decide +kernel
theorem d_L_law_965 : decode c_L_law 965 = .ok (.aload_n 0, 1) := by decide +kernel
theorem d_L_law_966 : decode c_L_law 966 = .ok (.iload_n 3, 1) := by decide +kernel
theorem d_L_law_967 : decode c_L_law 967 = .ok (.iconst 2, 1) := by decide +kernel
theorem d_L_law_968 : decode c_L_law 968 = .ok (.iadd, 1) := by decide +kernel
theorem d_L_law_969 : decode c_L_law 969 = .ok (.iaload, 1) := by decide +kernel
theorem d_L_law_970 : decode c_L_law 970 = .ok (.aload_n 0, 1) := by decide +kernel
theorem d_L_law_971 : decode c_L_law 971 = .ok (.iload_n 3, 1) := by decide +kernel
theorem d_L_law_972 : decode c_L_law 972 = .ok (.iconst 3, 1) := by decide +kernel
theorem d_L_law_973 : decode c_L_law 973 = .ok (.iadd, 1) := by decide +kernel
theorem d_L_law_974 : decode c_L_law 974 = .ok (.iaload, 1) := by decide +kernel
theorem d_L_law_975 : decode c_L_law 975 = .ok (.invokevirtual 103, 3) := by decide +kernel
theorem d_L_law_978 : decode c_L_law 978 = .ok (.if_icmp .eq 28, 3) := by decide +kernel
theorem d_L_law_981 : decode c_L_law 981 = .ok (.iconst 0, 1) := by decide +kernel
theorem d_L_law_982 : decode c_L_law 982 = .ok (.ireturn, 1) := by decide +kernel
theorem d_L_law_983 : decode c_L_law 983 = .ok (.aload_n 1, 1) := by decide +kernel
theorem d_L_law_984 : decode c_L_law 984 = .ok (.aload_n 0, 1) := by decide +kernel
theorem d_L_law_985 : decode c_L_law 985 = .ok (.iload_n 3, 1) := by decide +kernel
theorem d_L_law_986 : decode c_L_law 986 = .ok (.iconst 1, 1) := by decide +kernel
theorem d_L_law_987 : decode c_L_law 987 = .ok (.iadd, 1) := by decide +kernel
theorem d_L_law_988 : decode c_L_law 988 = .ok (.iaload, 1) := by decide +kernel
theorem d_L_law_989 : decode c_L_law 989 = .ok (.invokevirtual 104, 3) := by decide +kernel
theorem d_L_law_992 : decode c_L_law 992 = .ok (.aload_n 2, 1) := by decide +kernel
theorem d_L_law_993 : decode c_L_law 993 = .ok (.aload_n 0, 1) := by decide +kernel
theorem d_L_law_994 : decode c_L_law 994 = .ok (.iload_n 3, 1) := by decide +kernel
theorem d_L_law_995 : decode c_L_law 995 = .ok (.iconst 1, 1) := by decide +kernel
theorem d_L_law_996 : decode c_L_law 996 = .ok (.iadd, 1) := by decide +kernel
theorem d_L_law_997 : decode c_L_law 997 = .ok (.iaload, 1) := by decide +kernel
theorem d_L_law_998 : decode c_L_law 998 = .ok (.invokevirtual 108, 3) := by decide +kernel
theorem d_L_law_1001 : decode c_L_law 1001 = .ok (.if_icmp .eq 5, 3) := by decide +kernel
theorem d_L_law_1004 : decode c_L_law 1004 = .ok (.iconst 0, 1) := by decide +kernel
theorem d_L_law_1005 : decode c_L_law 1005 = .ok (.ireturn, 1) := by decide +kernel
theorem d_L_law_1006 : decode c_L_law 1006 = .ok (.iinc 3 8, 3) := by decide +kernel
theorem d_L_law_1009 : decode c_L_law 1009 = .ok (.goto (-991), 3) := by decide +kernel
theorem d_L_law_1012 : decode c_L_law 1012 = .ok (.iconst 1, 1) := by decide +kernel
theorem d_L_law_1013 : decode c_L_law 1013 = .ok (.ireturn, 1) := by decide +kernel
