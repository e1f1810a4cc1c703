abbrev b_La_cell : ByteArray := method_2_code
def y_La_cell : MethodName := ⟨R_law, "cell", "([II)I"⟩
def w_La_cell : List Cond := .code y_La_cell b_La_cell 2 (some .int) :: gx_tb
theorem co_La_cell : Cond.code y_La_cell b_La_cell 2 (some .int) ∈ gx_tb := gx_m 417 (by decide +kernel) (by decide +kernel)
theorem st_La_cell : Cond.static y_La_cell ∈ gx_tb := gx_m 416 (by decide +kernel) (by decide +kernel)
theorem in_law : Cond.initialized R_law ∈ gx_tb := gx_m 0 (by decide +kernel) (by decide +kernel)
theorem gi_law_cell : GoodIn gx_tb (wsS R_law 9 y_La_cell w_La_cell) := gx_gs (gx_m 415 (by decide +kernel) (by decide +kernel)) st_La_cell in_law co_La_cell
theorem d_La_cell_0 : decode b_La_cell 0 = .ok (.iload_n 1, 1) := by decide +kernel
theorem d_La_cell_1 : decode b_La_cell 1 = .ok (.aload_n 0, 1) := by decide +kernel
theorem d_La_cell_2 : decode b_La_cell 2 = .ok (.arraylength, 1) := by decide +kernel
theorem d_La_cell_3 : decode b_La_cell 3 = .ok (.if_icmp .ge 9, 3) := by decide +kernel
theorem d_La_cell_6 : decode b_La_cell 6 = .ok (.aload_n 0, 1) := by decide +kernel
theorem d_La_cell_7 : decode b_La_cell 7 = .ok (.iload_n 1, 1) := by decide +kernel
theorem d_La_cell_8 : decode b_La_cell 8 = .ok (.iaload, 1) := by decide +kernel
theorem d_La_cell_9 : decode b_La_cell 9 = .ok (.goto 4, 3) := by decide +kernel
theorem d_La_cell_12 : decode b_La_cell 12 = .ok (.iconst 0, 1) := by decide +kernel
theorem d_La_cell_13 : decode b_La_cell 13 = .ok (.ireturn, 1) := by decide +kernel
theorem d_law_0 : decode code 0 = .ok (.new 7, 3) := by decide +kernel
theorem d_law_3 : decode code 3 = .ok (.dup, 1) := by decide +kernel
theorem d_law_4 : decode code 4 = .ok (.aload_n 0, 1) := by decide +kernel
theorem d_law_5 : decode code 5 = .ok (.iconst 0, 1) := by decide +kernel
theorem d_law_6 : decode code 6 = .ok (.invokestatic 9, 3) := by decide +kernel
theorem d_law_9 : decode code 9 = .ok (.invokespecial 15, 3) := by decide +kernel
theorem d_law_12 : decode code 12 = .ok (.astore_n 1, 1) := by decide +kernel
theorem d_law_13 : decode code 13 = .ok (.new 18, 3) := by decide +kernel
theorem d_law_16 : decode code 16 = .ok (.dup, 1) := by decide +kernel
theorem d_law_17 : decode code 17 = .ok (.aload_n 0, 1) := by decide +kernel
theorem d_law_18 : decode code 18 = .ok (.iconst 0, 1) := by decide +kernel
theorem d_law_19 : decode code 19 = .ok (.invokestatic 9, 3) := by decide +kernel
theorem d_law_22 : decode code 22 = .ok (.invokespecial 20, 3) := by decide +kernel
theorem d_law_25 : decode code 25 = .ok (.astore_n 2, 1) := by decide +kernel
theorem d_law_26 : decode code 26 = .ok (.iconst 1, 1) := by decide +kernel
theorem d_law_27 : decode code 27 = .ok (.istore_n 3, 1) := by decide +kernel
theorem d_law_28 : decode code 28 = .ok (.iload_n 3, 1) := by decide +kernel
theorem d_law_29 : decode code 29 = .ok (.aload_n 0, 1) := by decide +kernel
theorem d_law_30 : decode code 30 = .ok (.arraylength, 1) := by decide +kernel
theorem d_law_31 : decode code 31 = .ok (.bipush 6, 2) := by decide +kernel
theorem d_law_33 : decode code 33 = .ok (.isub, 1) := by decide +kernel
theorem d_law_34 : decode code 34 = .ok (.if_icmp .gt 668, 3) := by decide +kernel
theorem d_law_37 : decode code 37 = .ok (.aload_n 0, 1) := by decide +kernel
theorem d_law_38 : decode code 38 = .ok (.iload_n 3, 1) := by decide +kernel
theorem d_law_39 : decode code 39 = .ok (.iaload, 1) := by decide +kernel
theorem d_law_40 : decode code 40 = .ok (.bipush 31, 2) := by decide +kernel
theorem d_law_42 : decode code 42 = .ok (.iand, 1) := by decide +kernel
theorem d_law_43 : decode code 43 = .ok (.tableswitch 653 0 19 #[93, 146, 169, 232, 265, 298, 321, 354, 377, 400, 423, 446, 469, 482, 505, 528, 551, 574, 597, 630], 93) := by decide +kernel
theorem d_law_136 : decode code 136 = .ok (.aload_n 1, 1) := by decide +kernel
theorem d_law_137 : decode code 137 = .ok (.aload_n 0, 1) := by decide +kernel
theorem d_law_138 : decode code 138 = .ok (.iload_n 3, 1) := by decide +kernel
theorem d_law_139 : decode code 139 = .ok (.iconst 1, 1) := by decide +kernel
theorem d_law_140 : decode code 140 = .ok (.iadd, 1) := by decide +kernel
theorem d_law_141 : decode code 141 = .ok (.iaload, 1) := by decide +kernel
theorem d_law_142 : decode code 142 = .ok (.aload_n 0, 1) := by decide +kernel
theorem d_law_143 : decode code 143 = .ok (.iload_n 3, 1) := by decide +kernel
theorem d_law_144 : decode code 144 = .ok (.iconst 2, 1) := by decide +kernel
theorem d_law_145 : decode code 145 = .ok (.iadd, 1) := by decide +kernel
theorem d_law_146 : decode code 146 = .ok (.iaload, 1) := by decide +kernel
theorem d_law_147 : decode code 147 = .ok (.aload_n 0, 1) := by decide +kernel
theorem d_law_148 : decode code 148 = .ok (.iload_n 3, 1) := by decide +kernel
theorem d_law_149 : decode code 149 = .ok (.iconst 3, 1) := by decide +kernel
theorem d_law_150 : decode code 150 = .ok (.iadd, 1) := by decide +kernel
theorem d_law_151 : decode code 151 = .ok (.iaload, 1) := by decide +kernel
theorem d_law_152 : decode code 152 = .ok (.aload_n 0, 1) := by decide +kernel
theorem d_law_153 : decode code 153 = .ok (.iload_n 3, 1) := by decide +kernel
theorem d_law_154 : decode code 154 = .ok (.iconst 4, 1) := by decide +kernel
theorem d_law_155 : decode code 155 = .ok (.iadd, 1) := by decide +kernel
theorem d_law_156 : decode code 156 = .ok (.iaload, 1) := by decide +kernel
theorem d_law_157 : decode code 157 = .ok (.invokevirtual 21, 3) := by decide +kernel
theorem d_law_160 : decode code 160 = .ok (.aload_n 2, 1) := by decide +kernel
theorem d_law_161 : decode code 161 = .ok (.aload_n 0, 1) := by decide +kernel
theorem d_law_162 : decode code 162 = .ok (.iload_n 3, 1) := by decide +kernel
theorem d_law_163 : decode code 163 = .ok (.iconst 1, 1) := by decide +kernel
theorem d_law_164 : decode code 164 = .ok (.iadd, 1) := by decide +kernel
theorem d_law_165 : decode code 165 = .ok (.iaload, 1) := by decide +kernel
theorem d_law_166 : decode code 166 = .ok (.aload_n 0, 1) := by decide +kernel
theorem d_law_167 : decode code 167 = .ok (.iload_n 3, 1) := by decide +kernel
theorem d_law_168 : decode code 168 = .ok (.iconst 2, 1) := by decide +kernel
theorem d_law_169 : decode code 169 = .ok (.iadd, 1) := by decide +kernel
theorem d_law_170 : decode code 170 = .ok (.iaload, 1) := by decide +kernel
theorem d_law_171 : decode code 171 = .ok (.aload_n 0, 1) := by decide +kernel
theorem d_law_172 : decode code 172 = .ok (.iload_n 3, 1) := by decide +kernel
theorem d_law_173 : decode code 173 = .ok (.iconst 3, 1) := by decide +kernel
theorem d_law_174 : decode code 174 = .ok (.iadd, 1) := by decide +kernel
theorem d_law_175 : decode code 175 = .ok (.iaload, 1) := by decide +kernel
theorem d_law_176 : decode code 176 = .ok (.aload_n 0, 1) := by decide +kernel
theorem d_law_177 : decode code 177 = .ok (.iload_n 3, 1) := by decide +kernel
theorem d_law_178 : decode code 178 = .ok (.iconst 4, 1) := by decide +kernel
theorem d_law_179 : decode code 179 = .ok (.iadd, 1) := by decide +kernel
theorem d_law_180 : decode code 180 = .ok (.iaload, 1) := by decide +kernel
theorem d_law_181 : decode code 181 = .ok (.invokevirtual 25, 3) := by decide +kernel
theorem d_law_184 : decode code 184 = .ok (.if_icmp .eq 512, 3) := by decide +kernel
theorem d_law_187 : decode code 187 = .ok (.iconst 0, 1) := by decide +kernel
theorem d_law_188 : decode code 188 = .ok (.ireturn, 1) := by decide +kernel
theorem d_law_189 : decode code 189 = .ok (.aload_n 1, 1) := by decide +kernel
theorem d_law_190 : decode code 190 = .ok (.aload_n 0, 1) := by decide +kernel
theorem d_law_191 : decode code 191 = .ok (.iload_n 3, 1) := by decide +kernel
theorem d_law_192 : decode code 192 = .ok (.iconst 1, 1) := by decide +kernel
theorem d_law_193 : decode code 193 = .ok (.iadd, 1) := by decide +kernel
theorem d_law_194 : decode code 194 = .ok (.iaload, 1) := by decide +kernel
theorem d_law_195 : decode code 195 = .ok (.invokevirtual 26, 3) := by decide +kernel
theorem d_law_198 : decode code 198 = .ok (.aload_n 2, 1) := by decide +kernel
theorem d_law_199 : decode code 199 = .ok (.aload_n 0, 1) := by decide +kernel
theorem d_law_200 : decode code 200 = .ok (.iload_n 3, 1) := by decide +kernel
theorem d_law_201 : decode code 201 = .ok (.iconst 1, 1) := by decide +kernel
theorem d_law_202 : decode code 202 = .ok (.iadd, 1) := by decide +kernel
theorem d_law_203 : decode code 203 = .ok (.iaload, 1) := by decide +kernel
theorem d_law_204 : decode code 204 = .ok (.invokevirtual 30, 3) := by decide +kernel
theorem d_law_207 : decode code 207 = .ok (.if_icmp .eq 489, 3) := by decide +kernel
theorem d_law_210 : decode code 210 = .ok (.iconst 0, 1) := by decide +kernel
theorem d_law_211 : decode code 211 = .ok (.ireturn, 1) := by decide +kernel
theorem d_law_212 : decode code 212 = .ok (.aload_n 1, 1) := by decide +kernel
theorem d_law_213 : decode code 213 = .ok (.aload_n 0, 1) := by decide +kernel
theorem d_law_214 : decode code 214 = .ok (.iload_n 3, 1) := by decide +kernel
theorem d_law_215 : decode code 215 = .ok (.iconst 1, 1) := by decide +kernel
theorem d_law_216 : decode code 216 = .ok (.iadd, 1) := by decide +kernel
theorem d_law_217 : decode code 217 = .ok (.iaload, 1) := by decide +kernel
theorem d_law_218 : decode code 218 = .ok (.aload_n 0, 1) := by decide +kernel
theorem d_law_219 : decode code 219 = .ok (.iload_n 3, 1) := by decide +kernel
theorem d_law_220 : decode code 220 = .ok (.iconst 2, 1) := by decide +kernel
theorem d_law_221 : decode code 221 = .ok (.iadd, 1) := by decide +kernel
theorem d_law_222 : decode code 222 = .ok (.iaload, 1) := by decide +kernel
theorem d_law_223 : decode code 223 = .ok (.aload_n 0, 1) := by decide +kernel
theorem d_law_224 : decode code 224 = .ok (.iload_n 3, 1) := by decide +kernel
theorem d_law_225 : decode code 225 = .ok (.iconst 3, 1) := by decide +kernel
theorem d_law_226 : decode code 226 = .ok (.iadd, 1) := by decide +kernel
theorem d_law_227 : decode code 227 = .ok (.iaload, 1) := by decide +kernel
theorem d_law_228 : decode code 228 = .ok (.aload_n 0, 1) := by decide +kernel
theorem d_law_229 : decode code 229 = .ok (.iload_n 3, 1) := by decide +kernel
theorem d_law_230 : decode code 230 = .ok (.iconst 4, 1) := by decide +kernel
theorem d_law_231 : decode code 231 = .ok (.iadd, 1) := by decide +kernel
theorem d_law_232 : decode code 232 = .ok (.iaload, 1) := by decide +kernel
theorem d_law_233 : decode code 233 = .ok (.aload_n 0, 1) := by decide +kernel
theorem d_law_234 : decode code 234 = .ok (.iload_n 3, 1) := by decide +kernel
theorem d_law_235 : decode code 235 = .ok (.iconst 5, 1) := by decide +kernel
theorem d_law_236 : decode code 236 = .ok (.iadd, 1) := by decide +kernel
theorem d_law_237 : decode code 237 = .ok (.iaload, 1) := by decide +kernel
theorem d_law_238 : decode code 238 = .ok (.invokevirtual 31, 3) := by decide +kernel
theorem d_law_241 : decode code 241 = .ok (.aload_n 2, 1) := by decide +kernel
theorem d_law_242 : decode code 242 = .ok (.aload_n 0, 1) := by decide +kernel
theorem d_law_243 : decode code 243 = .ok (.iload_n 3, 1) := by decide +kernel
theorem d_law_244 : decode code 244 = .ok (.iconst 1, 1) := by decide +kernel
theorem d_law_245 : decode code 245 = .ok (.iadd, 1) := by decide +kernel
theorem d_law_246 : decode code 246 = .ok (.iaload, 1) := by decide +kernel
theorem d_law_247 : decode code 247 = .ok (.aload_n 0, 1) := by decide +kernel
theorem d_law_248 : decode code 248 = .ok (.iload_n 3, 1) := by decide +kernel
theorem d_law_249 : decode code 249 = .ok (.iconst 2, 1) := by decide +kernel
theorem d_law_250 : decode code 250 = .ok (.iadd, 1) := by decide +kernel
theorem d_law_251 : decode code 251 = .ok (.iaload, 1) := by decide +kernel
theorem d_law_252 : decode code 252 = .ok (.aload_n 0, 1) := by decide +kernel
theorem d_law_253 : decode code 253 = .ok (.iload_n 3, 1) := by decide +kernel
theorem d_law_254 : decode code 254 = .ok (.iconst 3, 1) := by decide +kernel
theorem d_law_255 : decode code 255 = .ok (.iadd, 1) := by decide +kernel
theorem d_law_256 : decode code 256 = .ok (.iaload, 1) := by decide +kernel
theorem d_law_257 : decode code 257 = .ok (.aload_n 0, 1) := by decide +kernel
theorem d_law_258 : decode code 258 = .ok (.iload_n 3, 1) := by decide +kernel
theorem d_law_259 : decode code 259 = .ok (.iconst 4, 1) := by decide +kernel
theorem d_law_260 : decode code 260 = .ok (.iadd, 1) := by decide +kernel
theorem d_law_261 : decode code 261 = .ok (.iaload, 1) := by decide +kernel
theorem d_law_262 : decode code 262 = .ok (.aload_n 0, 1) := by decide +kernel
theorem d_law_263 : decode code 263 = .ok (.iload_n 3, 1) := by decide +kernel
theorem d_law_264 : decode code 264 = .ok (.iconst 5, 1) := by decide +kernel
theorem d_law_265 : decode code 265 = .ok (.iadd, 1) := by decide +kernel
theorem d_law_266 : decode code 266 = .ok (.iaload, 1) := by decide +kernel
theorem d_law_267 : decode code 267 = .ok (.invokevirtual 35, 3) := by decide +kernel
theorem d_law_270 : decode code 270 = .ok (.if_icmp .eq 426, 3) := by decide +kernel
theorem d_law_273 : decode code 273 = .ok (.iconst 0, 1) := by decide +kernel
theorem d_law_274 : decode code 274 = .ok (.ireturn, 1) := by decide +kernel
theorem d_law_275 : decode code 275 = .ok (.aload_n 1, 1) := by decide +kernel
theorem d_law_276 : decode code 276 = .ok (.aload_n 0, 1) := by decide +kernel
theorem d_law_277 : decode code 277 = .ok (.iload_n 3, 1) := by decide +kernel
theorem d_law_278 : decode code 278 = .ok (.iconst 1, 1) := by decide +kernel
theorem d_law_279 : decode code 279 = .ok (.iadd, 1) := by decide +kernel
theorem d_law_280 : decode code 280 = .ok (.iaload, 1) := by decide +kernel
theorem d_law_281 : decode code 281 = .ok (.aload_n 0, 1) := by decide +kernel
theorem d_law_282 : decode code 282 = .ok (.iload_n 3, 1) := by decide +kernel
theorem d_law_283 : decode code 283 = .ok (.iconst 2, 1) := by decide +kernel
theorem d_law_284 : decode code 284 = .ok (.iadd, 1) := by decide +kernel
theorem d_law_285 : decode code 285 = .ok (.iaload, 1) := by decide +kernel
theorem d_law_286 : decode code 286 = .ok (.invokevirtual 36, 3) := by decide +kernel
theorem d_law_289 : decode code 289 = .ok (.aload_n 2, 1) := by decide +kernel
theorem d_law_290 : decode code 290 = .ok (.aload_n 0, 1) := by decide +kernel
theorem d_law_291 : decode code 291 = .ok (.iload_n 3, 1) := by decide +kernel
theorem d_law_292 : decode code 292 = .ok (.iconst 1, 1) := by decide +kernel
theorem d_law_293 : decode code 293 = .ok (.iadd, 1) := by decide +kernel
theorem d_law_294 : decode code 294 = .ok (.iaload, 1) := by decide +kernel
theorem d_law_295 : decode code 295 = .ok (.aload_n 0, 1) := by decide +kernel
theorem d_law_296 : decode code 296 = .ok (.iload_n 3, 1) := by decide +kernel
theorem d_law_297 : decode code 297 = .ok (.iconst 2, 1) := by decide +kernel
theorem d_law_298 : decode code 298 = .ok (.iadd, 1) := by decide +kernel
theorem d_law_299 : decode code 299 = .ok (.iaload, 1) := by decide +kernel
theorem d_law_300 : decode code 300 = .ok (.invokevirtual 40, 3) := by decide +kernel
theorem d_law_303 : decode code 303 = .ok (.if_icmp .eq 393, 3) := by decide +kernel
theorem d_law_306 : decode code 306 = .ok (.iconst 0, 1) := by decide +kernel
theorem d_law_307 : decode code 307 = .ok (.ireturn, 1) := by decide +kernel
theorem d_law_308 : decode code 308 = .ok (.aload_n 1, 1) := by decide +kernel
theorem d_law_309 : decode code 309 = .ok (.aload_n 0, 1) := by decide +kernel
theorem d_law_310 : decode code 310 = .ok (.iload_n 3, 1) := by decide +kernel
theorem d_law_311 : decode code 311 = .ok (.iconst 1, 1) := by decide +kernel
theorem d_law_312 : decode code 312 = .ok (.iadd, 1) := by decide +kernel
theorem d_law_313 : decode code 313 = .ok (.iaload, 1) := by decide +kernel
theorem d_law_314 : decode code 314 = .ok (.aload_n 0, 1) := by decide +kernel
theorem d_law_315 : decode code 315 = .ok (.iload_n 3, 1) := by decide +kernel
theorem d_law_316 : decode code 316 = .ok (.iconst 2, 1) := by decide +kernel
theorem d_law_317 : decode code 317 = .ok (.iadd, 1) := by decide +kernel
theorem d_law_318 : decode code 318 = .ok (.iaload, 1) := by decide +kernel
theorem d_law_319 : decode code 319 = .ok (.invokevirtual 41, 3) := by decide +kernel
theorem d_law_322 : decode code 322 = .ok (.aload_n 2, 1) := by decide +kernel
theorem d_law_323 : decode code 323 = .ok (.aload_n 0, 1) := by decide +kernel
theorem d_law_324 : decode code 324 = .ok (.iload_n 3, 1) := by decide +kernel
theorem d_law_325 : decode code 325 = .ok (.iconst 1, 1) := by decide +kernel
theorem d_law_326 : decode code 326 = .ok (.iadd, 1) := by decide +kernel
theorem d_law_327 : decode code 327 = .ok (.iaload, 1) := by decide +kernel
theorem d_law_328 : decode code 328 = .ok (.aload_n 0, 1) := by decide +kernel
theorem d_law_329 : decode code 329 = .ok (.iload_n 3, 1) := by decide +kernel
theorem d_law_330 : decode code 330 = .ok (.iconst 2, 1) := by decide +kernel
theorem d_law_331 : decode code 331 = .ok (.iadd, 1) := by decide +kernel
theorem d_law_332 : decode code 332 = .ok (.iaload, 1) := by decide +kernel
theorem d_law_333 : decode code 333 = .ok (.invokevirtual 44, 3) := by decide +kernel
theorem d_law_336 : decode code 336 = .ok (.if_icmp .eq 360, 3) := by decide +kernel
theorem d_law_339 : decode code 339 = .ok (.iconst 0, 1) := by decide +kernel
theorem d_law_340 : decode code 340 = .ok (.ireturn, 1) := by decide +kernel
theorem d_law_341 : decode code 341 = .ok (.aload_n 1, 1) := by decide +kernel
theorem d_law_342 : decode code 342 = .ok (.aload_n 0, 1) := by decide +kernel
theorem d_law_343 : decode code 343 = .ok (.iload_n 3, 1) := by decide +kernel
theorem d_law_344 : decode code 344 = .ok (.iconst 1, 1) := by decide +kernel
theorem d_law_345 : decode code 345 = .ok (.iadd, 1) := by decide +kernel
theorem d_law_346 : decode code 346 = .ok (.iaload, 1) := by decide +kernel
theorem d_law_347 : decode code 347 = .ok (.invokevirtual 45, 3) := by decide +kernel
theorem d_law_350 : decode code 350 = .ok (.aload_n 2, 1) := by decide +kernel
theorem d_law_351 : decode code 351 = .ok (.aload_n 0, 1) := by decide +kernel
theorem d_law_352 : decode code 352 = .ok (.iload_n 3, 1) := by decide +kernel
theorem d_law_353 : decode code 353 = .ok (.iconst 1, 1) := by decide +kernel
theorem d_law_354 : decode code 354 = .ok (.iadd, 1) := by decide +kernel
theorem d_law_355 : decode code 355 = .ok (.iaload, 1) := by decide +kernel
theorem d_law_356 : decode code 356 = .ok (.invokevirtual 48, 3) := by decide +kernel
theorem d_law_359 : decode code 359 = .ok (.if_icmp .eq 337, 3) := by decide +kernel
theorem d_law_362 : decode code 362 = .ok (.iconst 0, 1) := by decide +kernel
theorem d_law_363 : decode code 363 = .ok (.ireturn, 1) := by decide +kernel
theorem d_law_364 : decode code 364 = .ok (.aload_n 1, 1) := by decide +kernel
theorem d_law_365 : decode code 365 = .ok (.aload_n 0, 1) := by decide +kernel
theorem d_law_366 : decode code 366 = .ok (.iload_n 3, 1) := by decide +kernel
theorem d_law_367 : decode code 367 = .ok (.iconst 1, 1) := by decide +kernel
theorem d_law_368 : decode code 368 = .ok (.iadd, 1) := by decide +kernel
theorem d_law_369 : decode code 369 = .ok (.iaload, 1) := by decide +kernel
theorem d_law_370 : decode code 370 = .ok (.aload_n 0, 1) := by decide +kernel
theorem d_law_371 : decode code 371 = .ok (.iload_n 3, 1) := by decide +kernel
theorem d_law_372 : decode code 372 = .ok (.iconst 2, 1) := by decide +kernel
theorem d_law_373 : decode code 373 = .ok (.iadd, 1) := by decide +kernel
theorem d_law_374 : decode code 374 = .ok (.iaload, 1) := by decide +kernel
theorem d_law_375 : decode code 375 = .ok (.invokevirtual 49, 3) := by decide +kernel
theorem d_law_378 : decode code 378 = .ok (.aload_n 2, 1) := by decide +kernel
theorem d_law_379 : decode code 379 = .ok (.aload_n 0, 1) := by decide +kernel
theorem d_law_380 : decode code 380 = .ok (.iload_n 3, 1) := by decide +kernel
theorem d_law_381 : decode code 381 = .ok (.iconst 1, 1) := by decide +kernel
theorem d_law_382 : decode code 382 = .ok (.iadd, 1) := by decide +kernel
theorem d_law_383 : decode code 383 = .ok (.iaload, 1) := by decide +kernel
theorem d_law_384 : decode code 384 = .ok (.aload_n 0, 1) := by decide +kernel
theorem d_law_385 : decode code 385 = .ok (.iload_n 3, 1) := by decide +kernel
theorem d_law_386 : decode code 386 = .ok (.iconst 2, 1) := by decide +kernel
theorem d_law_387 : decode code 387 = .ok (.iadd, 1) := by decide +kernel
theorem d_law_388 : decode code 388 = .ok (.iaload, 1) := by decide +kernel
theorem d_law_389 : decode code 389 = .ok (.invokevirtual 52, 3) := by decide +kernel
theorem d_law_392 : decode code 392 = .ok (.if_icmp .eq 304, 3) := by decide +kernel
theorem d_law_395 : decode code 395 = .ok (.iconst 0, 1) := by decide +kernel
theorem d_law_396 : decode code 396 = .ok (.ireturn, 1) := by decide +kernel
theorem d_law_397 : decode code 397 = .ok (.aload_n 1, 1) := by decide +kernel
theorem d_law_398 : decode code 398 = .ok (.aload_n 0, 1) := by decide +kernel
theorem d_law_399 : decode code 399 = .ok (.iload_n 3, 1) := by decide +kernel
theorem d_law_400 : decode code 400 = .ok (.iconst 1, 1) := by decide +kernel
theorem d_law_401 : decode code 401 = .ok (.iadd, 1) := by decide +kernel
theorem d_law_402 : decode code 402 = .ok (.iaload, 1) := by decide +kernel
theorem d_law_403 : decode code 403 = .ok (.invokevirtual 53, 3) := by decide +kernel
theorem d_law_406 : decode code 406 = .ok (.aload_n 2, 1) := by decide +kernel
theorem d_law_407 : decode code 407 = .ok (.aload_n 0, 1) := by decide +kernel
theorem d_law_408 : decode code 408 = .ok (.iload_n 3, 1) := by decide +kernel
theorem d_law_409 : decode code 409 = .ok (.iconst 1, 1) := by decide +kernel
theorem d_law_410 : decode code 410 = .ok (.iadd, 1) := by decide +kernel
theorem d_law_411 : decode code 411 = .ok (.iaload, 1) := by decide +kernel
theorem d_law_412 : decode code 412 = .ok (.invokevirtual 56, 3) := by decide +kernel
theorem d_law_415 : decode code 415 = .ok (.if_icmp .eq 281, 3) := by decide +kernel
theorem d_law_418 : decode code 418 = .ok (.iconst 0, 1) := by decide +kernel
theorem d_law_419 : decode code 419 = .ok (.ireturn, 1) := by decide +kernel
theorem d_law_420 : decode code 420 = .ok (.aload_n 1, 1) := by decide +kernel
theorem d_law_421 : decode code 421 = .ok (.aload_n 0, 1) := by decide +kernel
theorem d_law_422 : decode code 422 = .ok (.iload_n 3, 1) := by decide +kernel
theorem d_law_423 : decode code 423 = .ok (.iconst 1, 1) := by decide +kernel
theorem d_law_424 : decode code 424 = .ok (.iadd, 1) := by decide +kernel
theorem d_law_425 : decode code 425 = .ok (.iaload, 1) := by decide +kernel
theorem d_law_426 : decode code 426 = .ok (.invokevirtual 57, 3) := by decide +kernel
theorem d_law_429 : decode code 429 = .ok (.aload_n 2, 1) := by decide +kernel
theorem d_law_430 : decode code 430 = .ok (.aload_n 0, 1) := by decide +kernel
theorem d_law_431 : decode code 431 = .ok (.iload_n 3, 1) := by decide +kernel
theorem d_law_432 : decode code 432 = .ok (.iconst 1, 1) := by decide +kernel
theorem d_law_433 : decode code 433 = .ok (.iadd, 1) := by decide +kernel
theorem d_law_434 : decode code 434 = .ok (.iaload, 1) := by decide +kernel
theorem d_law_435 : decode code 435 = .ok (.invokevirtual 60, 3) := by decide +kernel
theorem d_law_438 : decode code 438 = .ok (.if_icmp .eq 258, 3) := by decide +kernel
theorem d_law_441 : decode code 441 = .ok (.iconst 0, 1) := by decide +kernel
theorem d_law_442 : decode code 442 = .ok (.ireturn, 1) := by decide +kernel
theorem d_law_443 : decode code 443 = .ok (.aload_n 1, 1) := by decide +kernel
theorem d_law_444 : decode code 444 = .ok (.aload_n 0, 1) := by decide +kernel
theorem d_law_445 : decode code 445 = .ok (.iload_n 3, 1) := by decide +kernel
theorem d_law_446 : decode code 446 = .ok (.iconst 1, 1) := by decide +kernel
theorem d_law_447 : decode code 447 = .ok (.iadd, 1) := by decide +kernel
theorem d_law_448 : decode code 448 = .ok (.iaload, 1) := by decide +kernel
theorem d_law_449 : decode code 449 = .ok (.invokevirtual 61, 3) := by decide +kernel
theorem d_law_452 : decode code 452 = .ok (.aload_n 2, 1) := by decide +kernel
theorem d_law_453 : decode code 453 = .ok (.aload_n 0, 1) := by decide +kernel
theorem d_law_454 : decode code 454 = .ok (.iload_n 3, 1) := by decide +kernel
theorem d_law_455 : decode code 455 = .ok (.iconst 1, 1) := by decide +kernel
theorem d_law_456 : decode code 456 = .ok (.iadd, 1) := by decide +kernel
theorem d_law_457 : decode code 457 = .ok (.iaload, 1) := by decide +kernel
theorem d_law_458 : decode code 458 = .ok (.invokevirtual 64, 3) := by decide +kernel
theorem d_law_461 : decode code 461 = .ok (.if_icmp .eq 235, 3) := by decide +kernel
theorem d_law_464 : decode code 464 = .ok (.iconst 0, 1) := by decide +kernel
theorem d_law_465 : decode code 465 = .ok (.ireturn, 1) := by decide +kernel
theorem d_law_466 : decode code 466 = .ok (.aload_n 1, 1) := by decide +kernel
theorem d_law_467 : decode code 467 = .ok (.aload_n 0, 1) := by decide +kernel
theorem d_law_468 : decode code 468 = .ok (.iload_n 3, 1) := by decide +kernel
theorem d_law_469 : decode code 469 = .ok (.iconst 1, 1) := by decide +kernel
theorem d_law_470 : decode code 470 = .ok (.iadd, 1) := by decide +kernel
theorem d_law_471 : decode code 471 = .ok (.iaload, 1) := by decide +kernel
theorem d_law_472 : decode code 472 = .ok (.invokevirtual 65, 3) := by decide +kernel
theorem d_law_475 : decode code 475 = .ok (.aload_n 2, 1) := by decide +kernel
theorem d_law_476 : decode code 476 = .ok (.aload_n 0, 1) := by decide +kernel
theorem d_law_477 : decode code 477 = .ok (.iload_n 3, 1) := by decide +kernel
theorem d_law_478 : decode code 478 = .ok (.iconst 1, 1) := by decide +kernel
theorem d_law_479 : decode code 479 = .ok (.iadd, 1) := by decide +kernel
theorem d_law_480 : decode code 480 = .ok (.iaload, 1) := by decide +kernel
theorem d_law_481 : decode code 481 = .ok (.invokevirtual 68, 3) := by decide +kernel
theorem d_law_484 : decode code 484 = .ok (.if_icmp .eq 212, 3) := by decide +kernel
theorem d_law_487 : decode code 487 = .ok (.iconst 0, 1) := by decide +kernel
theorem d_law_488 : decode code 488 = .ok (.ireturn, 1) := by decide +kernel
theorem d_law_489 : decode code 489 = .ok (.aload_n 1, 1) := by decide +kernel
theorem d_law_490 : decode code 490 = .ok (.aload_n 0, 1) := by decide +kernel
theorem d_law_491 : decode code 491 = .ok (.iload_n 3, 1) := by decide +kernel
theorem d_law_492 : decode code 492 = .ok (.iconst 1, 1) := by decide +kernel
theorem d_law_493 : decode code 493 = .ok (.iadd, 1) := by decide +kernel
theorem d_law_494 : decode code 494 = .ok (.iaload, 1) := by decide +kernel
theorem d_law_495 : decode code 495 = .ok (.invokevirtual 69, 3) := by decide +kernel
theorem d_law_498 : decode code 498 = .ok (.aload_n 2, 1) := by decide +kernel
theorem d_law_499 : decode code 499 = .ok (.aload_n 0, 1) := by decide +kernel
theorem d_law_500 : decode code 500 = .ok (.iload_n 3, 1) := by decide +kernel
theorem d_law_501 : decode code 501 = .ok (.iconst 1, 1) := by decide +kernel
theorem d_law_502 : decode code 502 = .ok (.iadd, 1) := by decide +kernel
theorem d_law_503 : decode code 503 = .ok (.iaload, 1) := by decide +kernel
theorem d_law_504 : decode code 504 = .ok (.invokevirtual 72, 3) := by decide +kernel
theorem d_law_507 : decode code 507 = .ok (.if_icmp .eq 189, 3) := by decide +kernel
theorem d_law_510 : decode code 510 = .ok (.iconst 0, 1) := by decide +kernel
theorem d_law_511 : decode code 511 = .ok (.ireturn, 1) := by decide +kernel
theorem d_law_512 : decode code 512 = .ok (.aload_n 1, 1) := by decide +kernel
theorem d_law_513 : decode code 513 = .ok (.invokevirtual 73, 3) := by decide +kernel
theorem d_law_516 : decode code 516 = .ok (.aload_n 2, 1) := by decide +kernel
theorem d_law_517 : decode code 517 = .ok (.invokevirtual 77, 3) := by decide +kernel
theorem d_law_520 : decode code 520 = .ok (.if_icmp .eq 176, 3) := by decide +kernel
theorem d_law_523 : decode code 523 = .ok (.iconst 0, 1) := by decide +kernel
theorem d_law_524 : decode code 524 = .ok (.ireturn, 1) := by decide +kernel
theorem d_law_525 : decode code 525 = .ok (.aload_n 1, 1) := by decide +kernel
theorem d_law_526 : decode code 526 = .ok (.aload_n 0, 1) := by decide +kernel
theorem d_law_527 : decode code 527 = .ok (.iload_n 3, 1) := by decide +kernel
theorem d_law_528 : decode code 528 = .ok (.iconst 1, 1) := by decide +kernel
theorem d_law_529 : decode code 529 = .ok (.iadd, 1) := by decide +kernel
theorem d_law_530 : decode code 530 = .ok (.iaload, 1) := by decide +kernel
theorem d_law_531 : decode code 531 = .ok (.invokevirtual 78, 3) := by decide +kernel
theorem d_law_534 : decode code 534 = .ok (.aload_n 2, 1) := by decide +kernel
theorem d_law_535 : decode code 535 = .ok (.aload_n 0, 1) := by decide +kernel
theorem d_law_536 : decode code 536 = .ok (.iload_n 3, 1) := by decide +kernel
theorem d_law_537 : decode code 537 = .ok (.iconst 1, 1) := by decide +kernel
theorem d_law_538 : decode code 538 = .ok (.iadd, 1) := by decide +kernel
theorem d_law_539 : decode code 539 = .ok (.iaload, 1) := by decide +kernel
theorem d_law_540 : decode code 540 = .ok (.invokevirtual 81, 3) := by decide +kernel
theorem d_law_543 : decode code 543 = .ok (.if_icmp .eq 153, 3) := by decide +kernel
theorem d_law_546 : decode code 546 = .ok (.iconst 0, 1) := by decide +kernel
theorem d_law_547 : decode code 547 = .ok (.ireturn, 1) := by decide +kernel
theorem d_law_548 : decode code 548 = .ok (.aload_n 1, 1) := by decide +kernel
theorem d_law_549 : decode code 549 = .ok (.aload_n 0, 1) := by decide +kernel
theorem d_law_550 : decode code 550 = .ok (.iload_n 3, 1) := by decide +kernel
theorem d_law_551 : decode code 551 = .ok (.iconst 1, 1) := by decide +kernel
theorem d_law_552 : decode code 552 = .ok (.iadd, 1) := by decide +kernel
theorem d_law_553 : decode code 553 = .ok (.iaload, 1) := by decide +kernel
theorem d_law_554 : decode code 554 = .ok (.invokevirtual 82, 3) := by decide +kernel
theorem d_law_557 : decode code 557 = .ok (.aload_n 2, 1) := by decide +kernel
theorem d_law_558 : decode code 558 = .ok (.aload_n 0, 1) := by decide +kernel
theorem d_law_559 : decode code 559 = .ok (.iload_n 3, 1) := by decide +kernel
theorem d_law_560 : decode code 560 = .ok (.iconst 1, 1) := by decide +kernel
theorem d_law_561 : decode code 561 = .ok (.iadd, 1) := by decide +kernel
theorem d_law_562 : decode code 562 = .ok (.iaload, 1) := by decide +kernel
theorem d_law_563 : decode code 563 = .ok (.invokevirtual 85, 3) := by decide +kernel
theorem d_law_566 : decode code 566 = .ok (.if_icmp .eq 130, 3) := by decide +kernel
theorem d_law_569 : decode code 569 = .ok (.iconst 0, 1) := by decide +kernel
theorem d_law_570 : decode code 570 = .ok (.ireturn, 1) := by decide +kernel
theorem d_law_571 : decode code 571 = .ok (.aload_n 1, 1) := by decide +kernel
theorem d_law_572 : decode code 572 = .ok (.aload_n 0, 1) := by decide +kernel
theorem d_law_573 : decode code 573 = .ok (.iload_n 3, 1) := by decide +kernel
theorem d_law_574 : decode code 574 = .ok (.iconst 1, 1) := by decide +kernel
theorem d_law_575 : decode code 575 = .ok (.iadd, 1) := by decide +kernel
theorem d_law_576 : decode code 576 = .ok (.iaload, 1) := by decide +kernel
theorem d_law_577 : decode code 577 = .ok (.invokevirtual 86, 3) := by decide +kernel
theorem d_law_580 : decode code 580 = .ok (.aload_n 2, 1) := by decide +kernel
theorem d_law_581 : decode code 581 = .ok (.aload_n 0, 1) := by decide +kernel
theorem d_law_582 : decode code 582 = .ok (.iload_n 3, 1) := by decide +kernel
theorem d_law_583 : decode code 583 = .ok (.iconst 1, 1) := by decide +kernel
theorem d_law_584 : decode code 584 = .ok (.iadd, 1) := by decide +kernel
theorem d_law_585 : decode code 585 = .ok (.iaload, 1) := by decide +kernel
theorem d_law_586 : decode code 586 = .ok (.invokevirtual 89, 3) := by decide +kernel
theorem d_law_589 : decode code 589 = .ok (.if_icmp .eq 107, 3) := by decide +kernel
theorem d_law_592 : decode code 592 = .ok (.iconst 0, 1) := by decide +kernel
theorem d_law_593 : decode code 593 = .ok (.ireturn, 1) := by decide +kernel
theorem d_law_594 : decode code 594 = .ok (.aload_n 1, 1) := by decide +kernel
theorem d_law_595 : decode code 595 = .ok (.aload_n 0, 1) := by decide +kernel
theorem d_law_596 : decode code 596 = .ok (.iload_n 3, 1) := by decide +kernel
theorem d_law_597 : decode code 597 = .ok (.iconst 1, 1) := by decide +kernel
theorem d_law_598 : decode code 598 = .ok (.iadd, 1) := by decide +kernel
theorem d_law_599 : decode code 599 = .ok (.iaload, 1) := by decide +kernel
theorem d_law_600 : decode code 600 = .ok (.invokevirtual 90, 3) := by decide +kernel
theorem d_law_603 : decode code 603 = .ok (.aload_n 2, 1) := by decide +kernel
theorem d_law_604 : decode code 604 = .ok (.aload_n 0, 1) := by decide +kernel
theorem d_law_605 : decode code 605 = .ok (.iload_n 3, 1) := by decide +kernel
theorem d_law_606 : decode code 606 = .ok (.iconst 1, 1) := by decide +kernel
theorem d_law_607 : decode code 607 = .ok (.iadd, 1) := by decide +kernel
theorem d_law_608 : decode code 608 = .ok (.iaload, 1) := by decide +kernel
theorem d_law_609 : decode code 609 = .ok (.invokevirtual 93, 3) := by decide +kernel
theorem d_law_612 : decode code 612 = .ok (.if_icmp .eq 84, 3) := by decide +kernel
theorem d_law_615 : decode code 615 = .ok (.iconst 0, 1) := by decide +kernel
theorem d_law_616 : decode code 616 = .ok (.ireturn, 1) := by decide +kernel
theorem d_law_617 : decode code 617 = .ok (.aload_n 1, 1) := by decide +kernel
theorem d_law_618 : decode code 618 = .ok (.aload_n 0, 1) := by decide +kernel
theorem d_law_619 : decode code 619 = .ok (.iload_n 3, 1) := by decide +kernel
theorem d_law_620 : decode code 620 = .ok (.iconst 1, 1) := by decide +kernel
theorem d_law_621 : decode code 621 = .ok (.iadd, 1) := by decide +kernel
theorem d_law_622 : decode code 622 = .ok (.iaload, 1) := by decide +kernel
theorem d_law_623 : decode code 623 = .ok (.invokevirtual 94, 3) := by decide +kernel
theorem d_law_626 : decode code 626 = .ok (.aload_n 2, 1) := by decide +kernel
theorem d_law_627 : decode code 627 = .ok (.aload_n 0, 1) := by decide +kernel
theorem d_law_628 : decode code 628 = .ok (.iload_n 3, 1) := by decide +kernel
theorem d_law_629 : decode code 629 = .ok (.iconst 1, 1) := by decide +kernel
theorem d_law_630 : decode code 630 = .ok (.iadd, 1) := by decide +kernel
theorem d_law_631 : decode code 631 = .ok (.iaload, 1) := by decide +kernel
theorem d_law_632 : decode code 632 = .ok (.invokevirtual 97, 3) := by decide +kernel
theorem d_law_635 : decode code 635 = .ok (.if_icmp .eq 61, 3) := by decide +kernel
theorem d_law_638 : decode code 638 = .ok (.iconst 0, 1) := by decide +kernel
theorem d_law_639 : decode code 639 = .ok (.ireturn, 1) := by decide +kernel
theorem d_law_640 : decode code 640 = .ok (.aload_n 1, 1) := by decide +kernel
theorem d_law_641 : decode code 641 = .ok (.aload_n 0, 1) := by decide +kernel
theorem d_law_642 : decode code 642 = .ok (.iload_n 3, 1) := by decide +kernel
theorem d_law_643 : decode code 643 = .ok (.iconst 1, 1) := by decide +kernel
theorem d_law_644 : decode code 644 = .ok (.iadd, 1) := by decide +kernel
theorem d_law_645 : decode code 645 = .ok (.iaload, 1) := by decide +kernel
theorem d_law_646 : decode code 646 = .ok (.aload_n 0, 1) := by decide +kernel
theorem d_law_647 : decode code 647 = .ok (.iload_n 3, 1) := by decide +kernel
theorem d_law_648 : decode code 648 = .ok (.iconst 2, 1) := by decide +kernel
theorem d_law_649 : decode code 649 = .ok (.iadd, 1) := by decide +kernel
theorem d_law_650 : decode code 650 = .ok (.iaload, 1) := by decide +kernel
theorem d_law_651 : decode code 651 = .ok (.invokevirtual 98, 3) := by decide +kernel
theorem d_law_654 : decode code 654 = .ok (.aload_n 2, 1) := by decide +kernel
theorem d_law_655 : decode code 655 = .ok (.aload_n 0, 1) := by decide +kernel
theorem d_law_656 : decode code 656 = .ok (.iload_n 3, 1) := by decide +kernel
theorem d_law_657 : decode code 657 = .ok (.iconst 1, 1) := by decide +kernel
theorem d_law_658 : decode code 658 = .ok (.iadd, 1) := by decide +kernel
theorem d_law_659 : decode code 659 = .ok (.iaload, 1) := by decide +kernel
theorem d_law_660 : decode code 660 = .ok (.aload_n 0, 1) := by decide +kernel
theorem d_law_661 : decode code 661 = .ok (.iload_n 3, 1) := by decide +kernel
theorem d_law_662 : decode code 662 = .ok (.iconst 2, 1) := by decide +kernel
theorem d_law_663 : decode code 663 = .ok (.iadd, 1) := by decide +kernel
theorem d_law_664 : decode code 664 = .ok (.iaload, 1) := by decide +kernel
theorem d_law_665 : decode code 665 = .ok (.invokevirtual 101, 3) := by decide +kernel
theorem d_law_668 : decode code 668 = .ok (.if_icmp .eq 28, 3) := by decide +kernel
theorem d_law_671 : decode code 671 = .ok (.iconst 0, 1) := by decide +kernel
theorem d_law_672 : decode code 672 = .ok (.ireturn, 1) := by decide +kernel
theorem d_law_673 : decode code 673 = .ok (.aload_n 1, 1) := by decide +kernel
theorem d_law_674 : decode code 674 = .ok (.aload_n 0, 1) := by decide +kernel
theorem d_law_675 : decode code 675 = .ok (.iload_n 3, 1) := by decide +kernel
theorem d_law_676 : decode code 676 = .ok (.iconst 1, 1) := by decide +kernel
theorem d_law_677 : decode code 677 = .ok (.iadd, 1) := by decide +kernel
theorem d_law_678 : decode code 678 = .ok (.iaload, 1) := by decide +kernel
theorem d_law_679 : decode code 679 = .ok (.invokevirtual 102, 3) := by decide +kernel
theorem d_law_682 : decode code 682 = .ok (.aload_n 2, 1) := by decide +kernel
theorem d_law_683 : decode code 683 = .ok (.aload_n 0, 1) := by decide +kernel
theorem d_law_684 : decode code 684 = .ok (.iload_n 3, 1) := by decide +kernel
theorem d_law_685 : decode code 685 = .ok (.iconst 1, 1) := by decide +kernel
theorem d_law_686 : decode code 686 = .ok (.iadd, 1) := by decide +kernel
theorem d_law_687 : decode code 687 = .ok (.iaload, 1) := by decide +kernel
theorem d_law_688 : decode code 688 = .ok (.invokevirtual 105, 3) := by decide +kernel
theorem d_law_691 : decode code 691 = .ok (.if_icmp .eq 5, 3) := by decide +kernel
theorem d_law_694 : decode code 694 = .ok (.iconst 0, 1) := by decide +kernel
theorem d_law_695 : decode code 695 = .ok (.ireturn, 1) := by decide +kernel
theorem d_law_696 : decode code 696 = .ok (.iinc 3 6, 3) := by decide +kernel
theorem d_law_699 : decode code 699 = .ok (.goto (-671), 3) := by decide +kernel
theorem d_law_702 : decode code 702 = .ok (.iconst 1, 1) := by decide +kernel
theorem d_law_703 : decode code 703 = .ok (.ireturn, 1) := by decide +kernel
set_option maxHeartbeats 4000000 in
set_option maxRecDepth 100000 in
theorem ct_La_cell (l : Launch) (b L : Nat) (xs : Nat → Int32) (hL : L < 2 ^ 31) : Met l y_La_cell w_La_cell ({ frames := 0, cells := 0, slots := 0, locals := 0 }) (va_Pc [.ref b, .int 0] (fun U => va_X b L xs U U.heap)) (fun _ st oc t => oc = .returned (some (.int (if 0 < L then xs 0 else 0))) ∧ t.heap = st.heap) 0 0 (fun _ => False) := by
  refine Met.ofW (cc := b_La_cell) (maxL := 2) (ret := some .int) (by decide) rfl ?_
  intro p e s m args below meth c s₁ B hml hv
  obtain ⟨rfl, hX⟩ := hv
  have hx := B.exec
  have hb := B.bytes
  have hr := B.returns
  have hlocks := B.notSynchronized
  have hbl : b < s.heap.size := by
    obtain ⟨scr, h1, -⟩ := hX
    exact (Array.getElem?_eq_some_iff.mp h1).1
  have hS : va_S (fun _ => False) s.heap s.heap [] := va_S.rf
  have hl := lv_entry ([.ref b, .int 0]) (n := 2) (Nat.le_of_ble_eq_true rfl)
  rw [lg_entry_eq]
  generalize (lg_sl ([.ref b, .int 0]) ++ List.replicate (2 - (lg_sl ([.ref b, .int 0])).length) Slot.unset).toArray = ls at hl ⊢
  have hl : lv_has ls 2 [(0, .ref b), (1, .int 0)] := hl
  refine lv_iload_n hx hb d_La_cell_0 rfl (lv_at hl 1 rfl) ?_
  refine lv_aload_n hx hb d_La_cell_1 rfl (lv_at hl 0 rfl) ?_
  refine va_slen (A := fun _ => False) hx hb hX hbl id hS d_La_cell_2 ?_
  refine lv_icmp_ge (tgt := 12) hx hb d_La_cell_3 (by decide) (fun c1 => ?_) (fun c1 => ?_)
  · refine lv_iconst (v := 0) hx hb d_La_cell_12 (by decide) ?_
    have h0 : ¬ 0 < L := fun h => nI_ge (a := 0) h hL c1
    rw [if_neg h0]
    exact W.iret hx hb hr (fun t ht _ => ⟨rfl, ht⟩) (fun q hq => by cases hq) d_La_cell_13
  · have h0 : 0 < L := by
      rcases Nat.eq_zero_or_pos L with h | h
      · subst h
        exact absurd (by decide) c1
      · exact h
    refine lv_aload_n hx hb d_La_cell_6 rfl (lv_at hl 0 rfl) ?_
    refine lv_iload_n hx hb d_La_cell_7 rfl (lv_at hl 1 rfl) ?_
    refine va_sld (A := fun _ => False) hx hb hX hbl id hS (vp_in_nI (n := 0) h0 hL) d_La_cell_8 ?_
    refine lv_goto (tgt := 13) hx hb d_La_cell_9 (by decide) ?_
    rw [if_pos h0]
    exact W.iret hx hb hr (fun t ht _ => ⟨rfl, ht⟩) (fun q hq => by cases hq) d_La_cell_13
