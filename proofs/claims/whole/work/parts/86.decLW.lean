/-! decode rows: written by wip/whole/names.py -/
theorem dLW_law_0 : decode code 0 = .ok (.new 7, 3) := by decide +kernel
theorem dLW_law_3 : decode code 3 = .ok (.dup, 1) := by decide +kernel
theorem dLW_law_4 : decode code 4 = .ok (.invokespecial 9, 3) := by decide +kernel
theorem dLW_law_7 : decode code 7 = .ok (.astore_n 1, 1) := by decide +kernel
theorem dLW_law_8 : decode code 8 = .ok (.new 10, 3) := by decide +kernel
theorem dLW_law_11 : decode code 11 = .ok (.dup, 1) := by decide +kernel
theorem dLW_law_12 : decode code 12 = .ok (.invokespecial 12, 3) := by decide +kernel
theorem dLW_law_15 : decode code 15 = .ok (.astore_n 2, 1) := by decide +kernel
theorem dLW_law_16 : decode code 16 = .ok (.iconst 0, 1) := by decide +kernel
theorem dLW_law_17 : decode code 17 = .ok (.istore_n 3, 1) := by decide +kernel
theorem dLW_law_18 : decode code 18 = .ok (.iload_n 3, 1) := by decide +kernel
theorem dLW_law_19 : decode code 19 = .ok (.aload_n 0, 1) := by decide +kernel
theorem dLW_law_20 : decode code 20 = .ok (.arraylength, 1) := by decide +kernel
theorem dLW_law_21 : decode code 21 = .ok (.iconst 4, 1) := by decide +kernel
theorem dLW_law_22 : decode code 22 = .ok (.isub, 1) := by decide +kernel
theorem dLW_law_23 : decode code 23 = .ok (.if_icmp .gt 485, 3) := by decide +kernel
theorem dLW_law_26 : decode code 26 = .ok (.aload_n 0, 1) := by decide +kernel
theorem dLW_law_27 : decode code 27 = .ok (.iload_n 3, 1) := by decide +kernel
theorem dLW_law_28 : decode code 28 = .ok (.iaload, 1) := by decide +kernel
theorem dLW_law_29 : decode code 29 = .ok (.bipush 15, 2) := by decide +kernel
theorem dLW_law_31 : decode code 31 = .ok (.iand, 1) := by decide +kernel
theorem dLW_law_32 : decode code 32 = .ok (.tableswitch 470 0 11 #[64, 97, 110, 143, 186, 229, 272, 305, 338, 361, 394, 437], 64) := by decide +kernel
theorem dLW_law_96 : decode code 96 = .ok (.aload_n 1, 1) := by decide +kernel
theorem dLW_law_97 : decode code 97 = .ok (.aload_n 0, 1) := by decide +kernel
theorem dLW_law_98 : decode code 98 = .ok (.iload_n 3, 1) := by decide +kernel
theorem dLW_law_99 : decode code 99 = .ok (.iconst 1, 1) := by decide +kernel
theorem dLW_law_100 : decode code 100 = .ok (.iadd, 1) := by decide +kernel
theorem dLW_law_101 : decode code 101 = .ok (.iaload, 1) := by decide +kernel
theorem dLW_law_102 : decode code 102 = .ok (.aload_n 0, 1) := by decide +kernel
theorem dLW_law_103 : decode code 103 = .ok (.iload_n 3, 1) := by decide +kernel
theorem dLW_law_104 : decode code 104 = .ok (.iconst 2, 1) := by decide +kernel
theorem dLW_law_105 : decode code 105 = .ok (.iadd, 1) := by decide +kernel
theorem dLW_law_106 : decode code 106 = .ok (.iaload, 1) := by decide +kernel
theorem dLW_law_107 : decode code 107 = .ok (.invokevirtual 13, 3) := by decide +kernel
theorem dLW_law_110 : decode code 110 = .ok (.aload_n 2, 1) := by decide +kernel
theorem dLW_law_111 : decode code 111 = .ok (.aload_n 0, 1) := by decide +kernel
theorem dLW_law_112 : decode code 112 = .ok (.iload_n 3, 1) := by decide +kernel
theorem dLW_law_113 : decode code 113 = .ok (.iconst 1, 1) := by decide +kernel
theorem dLW_law_114 : decode code 114 = .ok (.iadd, 1) := by decide +kernel
theorem dLW_law_115 : decode code 115 = .ok (.iaload, 1) := by decide +kernel
theorem dLW_law_116 : decode code 116 = .ok (.aload_n 0, 1) := by decide +kernel
theorem dLW_law_117 : decode code 117 = .ok (.iload_n 3, 1) := by decide +kernel
theorem dLW_law_118 : decode code 118 = .ok (.iconst 2, 1) := by decide +kernel
theorem dLW_law_119 : decode code 119 = .ok (.iadd, 1) := by decide +kernel
theorem dLW_law_120 : decode code 120 = .ok (.iaload, 1) := by decide +kernel
theorem dLW_law_121 : decode code 121 = .ok (.invokevirtual 17, 3) := by decide +kernel
theorem dLW_law_124 : decode code 124 = .ok (.if_icmp .eq 378, 3) := by decide +kernel
theorem dLW_law_127 : decode code 127 = .ok (.iconst 0, 1) := by decide +kernel
theorem dLW_law_128 : decode code 128 = .ok (.ireturn, 1) := by decide +kernel
theorem dLW_law_129 : decode code 129 = .ok (.aload_n 1, 1) := by decide +kernel
theorem dLW_law_130 : decode code 130 = .ok (.invokevirtual 18, 3) := by decide +kernel
theorem dLW_law_133 : decode code 133 = .ok (.aload_n 2, 1) := by decide +kernel
theorem dLW_law_134 : decode code 134 = .ok (.invokevirtual 22, 3) := by decide +kernel
theorem dLW_law_137 : decode code 137 = .ok (.if_icmp .eq 365, 3) := by decide +kernel
theorem dLW_law_140 : decode code 140 = .ok (.iconst 0, 1) := by decide +kernel
theorem dLW_law_141 : decode code 141 = .ok (.ireturn, 1) := by decide +kernel
theorem dLW_law_142 : decode code 142 = .ok (.aload_n 1, 1) := by decide +kernel
theorem dLW_law_143 : decode code 143 = .ok (.aload_n 0, 1) := by decide +kernel
theorem dLW_law_144 : decode code 144 = .ok (.iload_n 3, 1) := by decide +kernel
theorem dLW_law_145 : decode code 145 = .ok (.iconst 1, 1) := by decide +kernel
theorem dLW_law_146 : decode code 146 = .ok (.iadd, 1) := by decide +kernel
theorem dLW_law_147 : decode code 147 = .ok (.iaload, 1) := by decide +kernel
theorem dLW_law_148 : decode code 148 = .ok (.aload_n 0, 1) := by decide +kernel
theorem dLW_law_149 : decode code 149 = .ok (.iload_n 3, 1) := by decide +kernel
theorem dLW_law_150 : decode code 150 = .ok (.iconst 2, 1) := by decide +kernel
theorem dLW_law_151 : decode code 151 = .ok (.iadd, 1) := by decide +kernel
theorem dLW_law_152 : decode code 152 = .ok (.iaload, 1) := by decide +kernel
theorem dLW_law_153 : decode code 153 = .ok (.invokevirtual 23, 3) := by decide +kernel
theorem dLW_law_156 : decode code 156 = .ok (.aload_n 2, 1) := by decide +kernel
theorem dLW_law_157 : decode code 157 = .ok (.aload_n 0, 1) := by decide +kernel
theorem dLW_law_158 : decode code 158 = .ok (.iload_n 3, 1) := by decide +kernel
theorem dLW_law_159 : decode code 159 = .ok (.iconst 1, 1) := by decide +kernel
theorem dLW_law_160 : decode code 160 = .ok (.iadd, 1) := by decide +kernel
theorem dLW_law_161 : decode code 161 = .ok (.iaload, 1) := by decide +kernel
theorem dLW_law_162 : decode code 162 = .ok (.aload_n 0, 1) := by decide +kernel
theorem dLW_law_163 : decode code 163 = .ok (.iload_n 3, 1) := by decide +kernel
theorem dLW_law_164 : decode code 164 = .ok (.iconst 2, 1) := by decide +kernel
theorem dLW_law_165 : decode code 165 = .ok (.iadd, 1) := by decide +kernel
theorem dLW_law_166 : decode code 166 = .ok (.iaload, 1) := by decide +kernel
theorem dLW_law_167 : decode code 167 = .ok (.invokevirtual 26, 3) := by decide +kernel
theorem dLW_law_170 : decode code 170 = .ok (.if_icmp .eq 332, 3) := by decide +kernel
theorem dLW_law_173 : decode code 173 = .ok (.iconst 0, 1) := by decide +kernel
theorem dLW_law_174 : decode code 174 = .ok (.ireturn, 1) := by decide +kernel
theorem dLW_law_175 : decode code 175 = .ok (.aload_n 1, 1) := by decide +kernel
theorem dLW_law_176 : decode code 176 = .ok (.aload_n 0, 1) := by decide +kernel
theorem dLW_law_177 : decode code 177 = .ok (.iload_n 3, 1) := by decide +kernel
theorem dLW_law_178 : decode code 178 = .ok (.iconst 1, 1) := by decide +kernel
theorem dLW_law_179 : decode code 179 = .ok (.iadd, 1) := by decide +kernel
theorem dLW_law_180 : decode code 180 = .ok (.iaload, 1) := by decide +kernel
theorem dLW_law_181 : decode code 181 = .ok (.aload_n 0, 1) := by decide +kernel
theorem dLW_law_182 : decode code 182 = .ok (.iload_n 3, 1) := by decide +kernel
theorem dLW_law_183 : decode code 183 = .ok (.iconst 2, 1) := by decide +kernel
theorem dLW_law_184 : decode code 184 = .ok (.iadd, 1) := by decide +kernel
theorem dLW_law_185 : decode code 185 = .ok (.iaload, 1) := by decide +kernel
theorem dLW_law_186 : decode code 186 = .ok (.aload_n 0, 1) := by decide +kernel
theorem dLW_law_187 : decode code 187 = .ok (.iload_n 3, 1) := by decide +kernel
theorem dLW_law_188 : decode code 188 = .ok (.iconst 3, 1) := by decide +kernel
theorem dLW_law_189 : decode code 189 = .ok (.iadd, 1) := by decide +kernel
theorem dLW_law_190 : decode code 190 = .ok (.iaload, 1) := by decide +kernel
theorem dLW_law_191 : decode code 191 = .ok (.invokevirtual 27, 3) := by decide +kernel
theorem dLW_law_194 : decode code 194 = .ok (.aload_n 2, 1) := by decide +kernel
theorem dLW_law_195 : decode code 195 = .ok (.aload_n 0, 1) := by decide +kernel
theorem dLW_law_196 : decode code 196 = .ok (.iload_n 3, 1) := by decide +kernel
theorem dLW_law_197 : decode code 197 = .ok (.iconst 1, 1) := by decide +kernel
theorem dLW_law_198 : decode code 198 = .ok (.iadd, 1) := by decide +kernel
theorem dLW_law_199 : decode code 199 = .ok (.iaload, 1) := by decide +kernel
theorem dLW_law_200 : decode code 200 = .ok (.aload_n 0, 1) := by decide +kernel
theorem dLW_law_201 : decode code 201 = .ok (.iload_n 3, 1) := by decide +kernel
theorem dLW_law_202 : decode code 202 = .ok (.iconst 2, 1) := by decide +kernel
theorem dLW_law_203 : decode code 203 = .ok (.iadd, 1) := by decide +kernel
theorem dLW_law_204 : decode code 204 = .ok (.iaload, 1) := by decide +kernel
theorem dLW_law_205 : decode code 205 = .ok (.aload_n 0, 1) := by decide +kernel
theorem dLW_law_206 : decode code 206 = .ok (.iload_n 3, 1) := by decide +kernel
theorem dLW_law_207 : decode code 207 = .ok (.iconst 3, 1) := by decide +kernel
theorem dLW_law_208 : decode code 208 = .ok (.iadd, 1) := by decide +kernel
theorem dLW_law_209 : decode code 209 = .ok (.iaload, 1) := by decide +kernel
theorem dLW_law_210 : decode code 210 = .ok (.invokevirtual 31, 3) := by decide +kernel
theorem dLW_law_213 : decode code 213 = .ok (.if_icmp .eq 289, 3) := by decide +kernel
theorem dLW_law_216 : decode code 216 = .ok (.iconst 0, 1) := by decide +kernel
theorem dLW_law_217 : decode code 217 = .ok (.ireturn, 1) := by decide +kernel
theorem dLW_law_218 : decode code 218 = .ok (.aload_n 1, 1) := by decide +kernel
theorem dLW_law_219 : decode code 219 = .ok (.aload_n 0, 1) := by decide +kernel
theorem dLW_law_220 : decode code 220 = .ok (.iload_n 3, 1) := by decide +kernel
theorem dLW_law_221 : decode code 221 = .ok (.iconst 1, 1) := by decide +kernel
theorem dLW_law_222 : decode code 222 = .ok (.iadd, 1) := by decide +kernel
theorem dLW_law_223 : decode code 223 = .ok (.iaload, 1) := by decide +kernel
theorem dLW_law_224 : decode code 224 = .ok (.aload_n 0, 1) := by decide +kernel
theorem dLW_law_225 : decode code 225 = .ok (.iload_n 3, 1) := by decide +kernel
theorem dLW_law_226 : decode code 226 = .ok (.iconst 2, 1) := by decide +kernel
theorem dLW_law_227 : decode code 227 = .ok (.iadd, 1) := by decide +kernel
theorem dLW_law_228 : decode code 228 = .ok (.iaload, 1) := by decide +kernel
theorem dLW_law_229 : decode code 229 = .ok (.aload_n 0, 1) := by decide +kernel
theorem dLW_law_230 : decode code 230 = .ok (.iload_n 3, 1) := by decide +kernel
theorem dLW_law_231 : decode code 231 = .ok (.iconst 3, 1) := by decide +kernel
theorem dLW_law_232 : decode code 232 = .ok (.iadd, 1) := by decide +kernel
theorem dLW_law_233 : decode code 233 = .ok (.iaload, 1) := by decide +kernel
theorem dLW_law_234 : decode code 234 = .ok (.invokevirtual 32, 3) := by decide +kernel
theorem dLW_law_237 : decode code 237 = .ok (.aload_n 2, 1) := by decide +kernel
theorem dLW_law_238 : decode code 238 = .ok (.aload_n 0, 1) := by decide +kernel
theorem dLW_law_239 : decode code 239 = .ok (.iload_n 3, 1) := by decide +kernel
theorem dLW_law_240 : decode code 240 = .ok (.iconst 1, 1) := by decide +kernel
theorem dLW_law_241 : decode code 241 = .ok (.iadd, 1) := by decide +kernel
theorem dLW_law_242 : decode code 242 = .ok (.iaload, 1) := by decide +kernel
theorem dLW_law_243 : decode code 243 = .ok (.aload_n 0, 1) := by decide +kernel
theorem dLW_law_244 : decode code 244 = .ok (.iload_n 3, 1) := by decide +kernel
theorem dLW_law_245 : decode code 245 = .ok (.iconst 2, 1) := by decide +kernel
theorem dLW_law_246 : decode code 246 = .ok (.iadd, 1) := by decide +kernel
theorem dLW_law_247 : decode code 247 = .ok (.iaload, 1) := by decide +kernel
theorem dLW_law_248 : decode code 248 = .ok (.aload_n 0, 1) := by decide +kernel
theorem dLW_law_249 : decode code 249 = .ok (.iload_n 3, 1) := by decide +kernel
theorem dLW_law_250 : decode code 250 = .ok (.iconst 3, 1) := by decide +kernel
theorem dLW_law_251 : decode code 251 = .ok (.iadd, 1) := by decide +kernel
theorem dLW_law_252 : decode code 252 = .ok (.iaload, 1) := by decide +kernel
theorem dLW_law_253 : decode code 253 = .ok (.invokevirtual 35, 3) := by decide +kernel
theorem dLW_law_256 : decode code 256 = .ok (.if_icmp .eq 246, 3) := by decide +kernel
theorem dLW_law_259 : decode code 259 = .ok (.iconst 0, 1) := by decide +kernel
theorem dLW_law_260 : decode code 260 = .ok (.ireturn, 1) := by decide +kernel
theorem dLW_law_261 : decode code 261 = .ok (.aload_n 1, 1) := by decide +kernel
theorem dLW_law_262 : decode code 262 = .ok (.aload_n 0, 1) := by decide +kernel
theorem dLW_law_263 : decode code 263 = .ok (.iload_n 3, 1) := by decide +kernel
theorem dLW_law_264 : decode code 264 = .ok (.iconst 1, 1) := by decide +kernel
theorem dLW_law_265 : decode code 265 = .ok (.iadd, 1) := by decide +kernel
theorem dLW_law_266 : decode code 266 = .ok (.iaload, 1) := by decide +kernel
theorem dLW_law_267 : decode code 267 = .ok (.aload_n 0, 1) := by decide +kernel
theorem dLW_law_268 : decode code 268 = .ok (.iload_n 3, 1) := by decide +kernel
theorem dLW_law_269 : decode code 269 = .ok (.iconst 2, 1) := by decide +kernel
theorem dLW_law_270 : decode code 270 = .ok (.iadd, 1) := by decide +kernel
theorem dLW_law_271 : decode code 271 = .ok (.iaload, 1) := by decide +kernel
theorem dLW_law_272 : decode code 272 = .ok (.aload_n 0, 1) := by decide +kernel
theorem dLW_law_273 : decode code 273 = .ok (.iload_n 3, 1) := by decide +kernel
theorem dLW_law_274 : decode code 274 = .ok (.iconst 3, 1) := by decide +kernel
theorem dLW_law_275 : decode code 275 = .ok (.iadd, 1) := by decide +kernel
theorem dLW_law_276 : decode code 276 = .ok (.iaload, 1) := by decide +kernel
theorem dLW_law_277 : decode code 277 = .ok (.invokevirtual 36, 3) := by decide +kernel
theorem dLW_law_280 : decode code 280 = .ok (.aload_n 2, 1) := by decide +kernel
theorem dLW_law_281 : decode code 281 = .ok (.aload_n 0, 1) := by decide +kernel
theorem dLW_law_282 : decode code 282 = .ok (.iload_n 3, 1) := by decide +kernel
theorem dLW_law_283 : decode code 283 = .ok (.iconst 1, 1) := by decide +kernel
theorem dLW_law_284 : decode code 284 = .ok (.iadd, 1) := by decide +kernel
theorem dLW_law_285 : decode code 285 = .ok (.iaload, 1) := by decide +kernel
theorem dLW_law_286 : decode code 286 = .ok (.aload_n 0, 1) := by decide +kernel
theorem dLW_law_287 : decode code 287 = .ok (.iload_n 3, 1) := by decide +kernel
theorem dLW_law_288 : decode code 288 = .ok (.iconst 2, 1) := by decide +kernel
theorem dLW_law_289 : decode code 289 = .ok (.iadd, 1) := by decide +kernel
theorem dLW_law_290 : decode code 290 = .ok (.iaload, 1) := by decide +kernel
theorem dLW_law_291 : decode code 291 = .ok (.aload_n 0, 1) := by decide +kernel
theorem dLW_law_292 : decode code 292 = .ok (.iload_n 3, 1) := by decide +kernel
theorem dLW_law_293 : decode code 293 = .ok (.iconst 3, 1) := by decide +kernel
theorem dLW_law_294 : decode code 294 = .ok (.iadd, 1) := by decide +kernel
theorem dLW_law_295 : decode code 295 = .ok (.iaload, 1) := by decide +kernel
theorem dLW_law_296 : decode code 296 = .ok (.invokevirtual 39, 3) := by decide +kernel
theorem dLW_law_299 : decode code 299 = .ok (.if_icmp .eq 203, 3) := by decide +kernel
theorem dLW_law_302 : decode code 302 = .ok (.iconst 0, 1) := by decide +kernel
theorem dLW_law_303 : decode code 303 = .ok (.ireturn, 1) := by decide +kernel
theorem dLW_law_304 : decode code 304 = .ok (.aload_n 1, 1) := by decide +kernel
theorem dLW_law_305 : decode code 305 = .ok (.aload_n 0, 1) := by decide +kernel
theorem dLW_law_306 : decode code 306 = .ok (.iload_n 3, 1) := by decide +kernel
theorem dLW_law_307 : decode code 307 = .ok (.iconst 1, 1) := by decide +kernel
theorem dLW_law_308 : decode code 308 = .ok (.iadd, 1) := by decide +kernel
theorem dLW_law_309 : decode code 309 = .ok (.iaload, 1) := by decide +kernel
theorem dLW_law_310 : decode code 310 = .ok (.aload_n 0, 1) := by decide +kernel
theorem dLW_law_311 : decode code 311 = .ok (.iload_n 3, 1) := by decide +kernel
theorem dLW_law_312 : decode code 312 = .ok (.iconst 2, 1) := by decide +kernel
theorem dLW_law_313 : decode code 313 = .ok (.iadd, 1) := by decide +kernel
theorem dLW_law_314 : decode code 314 = .ok (.iaload, 1) := by decide +kernel
theorem dLW_law_315 : decode code 315 = .ok (.invokevirtual 40, 3) := by decide +kernel
theorem dLW_law_318 : decode code 318 = .ok (.aload_n 2, 1) := by decide +kernel
theorem dLW_law_319 : decode code 319 = .ok (.aload_n 0, 1) := by decide +kernel
theorem dLW_law_320 : decode code 320 = .ok (.iload_n 3, 1) := by decide +kernel
theorem dLW_law_321 : decode code 321 = .ok (.iconst 1, 1) := by decide +kernel
theorem dLW_law_322 : decode code 322 = .ok (.iadd, 1) := by decide +kernel
theorem dLW_law_323 : decode code 323 = .ok (.iaload, 1) := by decide +kernel
theorem dLW_law_324 : decode code 324 = .ok (.aload_n 0, 1) := by decide +kernel
theorem dLW_law_325 : decode code 325 = .ok (.iload_n 3, 1) := by decide +kernel
theorem dLW_law_326 : decode code 326 = .ok (.iconst 2, 1) := by decide +kernel
theorem dLW_law_327 : decode code 327 = .ok (.iadd, 1) := by decide +kernel
theorem dLW_law_328 : decode code 328 = .ok (.iaload, 1) := by decide +kernel
theorem dLW_law_329 : decode code 329 = .ok (.invokevirtual 43, 3) := by decide +kernel
theorem dLW_law_332 : decode code 332 = .ok (.if_icmp .eq 170, 3) := by decide +kernel
theorem dLW_law_335 : decode code 335 = .ok (.iconst 0, 1) := by decide +kernel
theorem dLW_law_336 : decode code 336 = .ok (.ireturn, 1) := by decide +kernel
theorem dLW_law_337 : decode code 337 = .ok (.aload_n 1, 1) := by decide +kernel
theorem dLW_law_338 : decode code 338 = .ok (.aload_n 0, 1) := by decide +kernel
theorem dLW_law_339 : decode code 339 = .ok (.iload_n 3, 1) := by decide +kernel
theorem dLW_law_340 : decode code 340 = .ok (.iconst 1, 1) := by decide +kernel
theorem dLW_law_341 : decode code 341 = .ok (.iadd, 1) := by decide +kernel
theorem dLW_law_342 : decode code 342 = .ok (.iaload, 1) := by decide +kernel
theorem dLW_law_343 : decode code 343 = .ok (.aload_n 0, 1) := by decide +kernel
theorem dLW_law_344 : decode code 344 = .ok (.iload_n 3, 1) := by decide +kernel
theorem dLW_law_345 : decode code 345 = .ok (.iconst 2, 1) := by decide +kernel
theorem dLW_law_346 : decode code 346 = .ok (.iadd, 1) := by decide +kernel
theorem dLW_law_347 : decode code 347 = .ok (.iaload, 1) := by decide +kernel
theorem dLW_law_348 : decode code 348 = .ok (.invokevirtual 44, 3) := by decide +kernel
theorem dLW_law_351 : decode code 351 = .ok (.aload_n 2, 1) := by decide +kernel
theorem dLW_law_352 : decode code 352 = .ok (.aload_n 0, 1) := by decide +kernel
theorem dLW_law_353 : decode code 353 = .ok (.iload_n 3, 1) := by decide +kernel
theorem dLW_law_354 : decode code 354 = .ok (.iconst 1, 1) := by decide +kernel
theorem dLW_law_355 : decode code 355 = .ok (.iadd, 1) := by decide +kernel
theorem dLW_law_356 : decode code 356 = .ok (.iaload, 1) := by decide +kernel
theorem dLW_law_357 : decode code 357 = .ok (.aload_n 0, 1) := by decide +kernel
theorem dLW_law_358 : decode code 358 = .ok (.iload_n 3, 1) := by decide +kernel
theorem dLW_law_359 : decode code 359 = .ok (.iconst 2, 1) := by decide +kernel
theorem dLW_law_360 : decode code 360 = .ok (.iadd, 1) := by decide +kernel
theorem dLW_law_361 : decode code 361 = .ok (.iaload, 1) := by decide +kernel
theorem dLW_law_362 : decode code 362 = .ok (.invokevirtual 47, 3) := by decide +kernel
theorem dLW_law_365 : decode code 365 = .ok (.if_icmp .eq 137, 3) := by decide +kernel
theorem dLW_law_368 : decode code 368 = .ok (.iconst 0, 1) := by decide +kernel
theorem dLW_law_369 : decode code 369 = .ok (.ireturn, 1) := by decide +kernel
theorem dLW_law_370 : decode code 370 = .ok (.aload_n 1, 1) := by decide +kernel
theorem dLW_law_371 : decode code 371 = .ok (.aload_n 0, 1) := by decide +kernel
theorem dLW_law_372 : decode code 372 = .ok (.iload_n 3, 1) := by decide +kernel
theorem dLW_law_373 : decode code 373 = .ok (.iconst 1, 1) := by decide +kernel
theorem dLW_law_374 : decode code 374 = .ok (.iadd, 1) := by decide +kernel
theorem dLW_law_375 : decode code 375 = .ok (.iaload, 1) := by decide +kernel
theorem dLW_law_376 : decode code 376 = .ok (.invokevirtual 48, 3) := by decide +kernel
theorem dLW_law_379 : decode code 379 = .ok (.aload_n 2, 1) := by decide +kernel
theorem dLW_law_380 : decode code 380 = .ok (.aload_n 0, 1) := by decide +kernel
theorem dLW_law_381 : decode code 381 = .ok (.iload_n 3, 1) := by decide +kernel
theorem dLW_law_382 : decode code 382 = .ok (.iconst 1, 1) := by decide +kernel
theorem dLW_law_383 : decode code 383 = .ok (.iadd, 1) := by decide +kernel
theorem dLW_law_384 : decode code 384 = .ok (.iaload, 1) := by decide +kernel
theorem dLW_law_385 : decode code 385 = .ok (.invokevirtual 52, 3) := by decide +kernel
theorem dLW_law_388 : decode code 388 = .ok (.if_icmp .eq 114, 3) := by decide +kernel
theorem dLW_law_391 : decode code 391 = .ok (.iconst 0, 1) := by decide +kernel
theorem dLW_law_392 : decode code 392 = .ok (.ireturn, 1) := by decide +kernel
theorem dLW_law_393 : decode code 393 = .ok (.aload_n 1, 1) := by decide +kernel
theorem dLW_law_394 : decode code 394 = .ok (.aload_n 0, 1) := by decide +kernel
theorem dLW_law_395 : decode code 395 = .ok (.iload_n 3, 1) := by decide +kernel
theorem dLW_law_396 : decode code 396 = .ok (.iconst 1, 1) := by decide +kernel
theorem dLW_law_397 : decode code 397 = .ok (.iadd, 1) := by decide +kernel
theorem dLW_law_398 : decode code 398 = .ok (.iaload, 1) := by decide +kernel
theorem dLW_law_399 : decode code 399 = .ok (.aload_n 0, 1) := by decide +kernel
theorem dLW_law_400 : decode code 400 = .ok (.iload_n 3, 1) := by decide +kernel
theorem dLW_law_401 : decode code 401 = .ok (.iconst 2, 1) := by decide +kernel
theorem dLW_law_402 : decode code 402 = .ok (.iadd, 1) := by decide +kernel
theorem dLW_law_403 : decode code 403 = .ok (.iaload, 1) := by decide +kernel
theorem dLW_law_404 : decode code 404 = .ok (.invokevirtual 53, 3) := by decide +kernel
theorem dLW_law_407 : decode code 407 = .ok (.aload_n 2, 1) := by decide +kernel
theorem dLW_law_408 : decode code 408 = .ok (.aload_n 0, 1) := by decide +kernel
theorem dLW_law_409 : decode code 409 = .ok (.iload_n 3, 1) := by decide +kernel
theorem dLW_law_410 : decode code 410 = .ok (.iconst 1, 1) := by decide +kernel
theorem dLW_law_411 : decode code 411 = .ok (.iadd, 1) := by decide +kernel
theorem dLW_law_412 : decode code 412 = .ok (.iaload, 1) := by decide +kernel
theorem dLW_law_413 : decode code 413 = .ok (.aload_n 0, 1) := by decide +kernel
theorem dLW_law_414 : decode code 414 = .ok (.iload_n 3, 1) := by decide +kernel
theorem dLW_law_415 : decode code 415 = .ok (.iconst 2, 1) := by decide +kernel
theorem dLW_law_416 : decode code 416 = .ok (.iadd, 1) := by decide +kernel
theorem dLW_law_417 : decode code 417 = .ok (.iaload, 1) := by decide +kernel
theorem dLW_law_418 : decode code 418 = .ok (.invokevirtual 57, 3) := by decide +kernel
theorem dLW_law_421 : decode code 421 = .ok (.if_icmp .eq 81, 3) := by decide +kernel
theorem dLW_law_424 : decode code 424 = .ok (.iconst 0, 1) := by decide +kernel
theorem dLW_law_425 : decode code 425 = .ok (.ireturn, 1) := by decide +kernel
theorem dLW_law_426 : decode code 426 = .ok (.aload_n 1, 1) := by decide +kernel
theorem dLW_law_427 : decode code 427 = .ok (.aload_n 0, 1) := by decide +kernel
theorem dLW_law_428 : decode code 428 = .ok (.iload_n 3, 1) := by decide +kernel
theorem dLW_law_429 : decode code 429 = .ok (.iconst 1, 1) := by decide +kernel
theorem dLW_law_430 : decode code 430 = .ok (.iadd, 1) := by decide +kernel
theorem dLW_law_431 : decode code 431 = .ok (.iaload, 1) := by decide +kernel
theorem dLW_law_432 : decode code 432 = .ok (.aload_n 0, 1) := by decide +kernel
theorem dLW_law_433 : decode code 433 = .ok (.iload_n 3, 1) := by decide +kernel
theorem dLW_law_434 : decode code 434 = .ok (.iconst 2, 1) := by decide +kernel
theorem dLW_law_435 : decode code 435 = .ok (.iadd, 1) := by decide +kernel
theorem dLW_law_436 : decode code 436 = .ok (.iaload, 1) := by decide +kernel
theorem dLW_law_437 : decode code 437 = .ok (.aload_n 0, 1) := by decide +kernel
theorem dLW_law_438 : decode code 438 = .ok (.iload_n 3, 1) := by decide +kernel
theorem dLW_law_439 : decode code 439 = .ok (.iconst 3, 1) := by decide +kernel
theorem dLW_law_440 : decode code 440 = .ok (.iadd, 1) := by decide +kernel
theorem dLW_law_441 : decode code 441 = .ok (.iaload, 1) := by decide +kernel
theorem dLW_law_442 : decode code 442 = .ok (.invokevirtual 58, 3) := by decide +kernel
theorem dLW_law_445 : decode code 445 = .ok (.aload_n 2, 1) := by decide +kernel
theorem dLW_law_446 : decode code 446 = .ok (.aload_n 0, 1) := by decide +kernel
theorem dLW_law_447 : decode code 447 = .ok (.iload_n 3, 1) := by decide +kernel
theorem dLW_law_448 : decode code 448 = .ok (.iconst 1, 1) := by decide +kernel
theorem dLW_law_449 : decode code 449 = .ok (.iadd, 1) := by decide +kernel
theorem dLW_law_450 : decode code 450 = .ok (.iaload, 1) := by decide +kernel
theorem dLW_law_451 : decode code 451 = .ok (.aload_n 0, 1) := by decide +kernel
theorem dLW_law_452 : decode code 452 = .ok (.iload_n 3, 1) := by decide +kernel
theorem dLW_law_453 : decode code 453 = .ok (.iconst 2, 1) := by decide +kernel
theorem dLW_law_454 : decode code 454 = .ok (.iadd, 1) := by decide +kernel
theorem dLW_law_455 : decode code 455 = .ok (.iaload, 1) := by decide +kernel
theorem dLW_law_456 : decode code 456 = .ok (.aload_n 0, 1) := by decide +kernel
theorem dLW_law_457 : decode code 457 = .ok (.iload_n 3, 1) := by decide +kernel
theorem dLW_law_458 : decode code 458 = .ok (.iconst 3, 1) := by decide +kernel
theorem dLW_law_459 : decode code 459 = .ok (.iadd, 1) := by decide +kernel
theorem dLW_law_460 : decode code 460 = .ok (.iaload, 1) := by decide +kernel
theorem dLW_law_461 : decode code 461 = .ok (.invokevirtual 61, 3) := by decide +kernel
theorem dLW_law_464 : decode code 464 = .ok (.if_icmp .eq 38, 3) := by decide +kernel
theorem dLW_law_467 : decode code 467 = .ok (.iconst 0, 1) := by decide +kernel
theorem dLW_law_468 : decode code 468 = .ok (.ireturn, 1) := by decide +kernel
theorem dLW_law_469 : decode code 469 = .ok (.aload_n 1, 1) := by decide +kernel
theorem dLW_law_470 : decode code 470 = .ok (.aload_n 0, 1) := by decide +kernel
theorem dLW_law_471 : decode code 471 = .ok (.iload_n 3, 1) := by decide +kernel
theorem dLW_law_472 : decode code 472 = .ok (.iconst 1, 1) := by decide +kernel
theorem dLW_law_473 : decode code 473 = .ok (.iadd, 1) := by decide +kernel
theorem dLW_law_474 : decode code 474 = .ok (.iaload, 1) := by decide +kernel
theorem dLW_law_475 : decode code 475 = .ok (.aload_n 0, 1) := by decide +kernel
theorem dLW_law_476 : decode code 476 = .ok (.iload_n 3, 1) := by decide +kernel
theorem dLW_law_477 : decode code 477 = .ok (.iconst 2, 1) := by decide +kernel
theorem dLW_law_478 : decode code 478 = .ok (.iadd, 1) := by decide +kernel
theorem dLW_law_479 : decode code 479 = .ok (.iaload, 1) := by decide +kernel
theorem dLW_law_480 : decode code 480 = .ok (.invokevirtual 62, 3) := by decide +kernel
theorem dLW_law_483 : decode code 483 = .ok (.aload_n 2, 1) := by decide +kernel
theorem dLW_law_484 : decode code 484 = .ok (.aload_n 0, 1) := by decide +kernel
theorem dLW_law_485 : decode code 485 = .ok (.iload_n 3, 1) := by decide +kernel
theorem dLW_law_486 : decode code 486 = .ok (.iconst 1, 1) := by decide +kernel
theorem dLW_law_487 : decode code 487 = .ok (.iadd, 1) := by decide +kernel
theorem dLW_law_488 : decode code 488 = .ok (.iaload, 1) := by decide +kernel
theorem dLW_law_489 : decode code 489 = .ok (.aload_n 0, 1) := by decide +kernel
theorem dLW_law_490 : decode code 490 = .ok (.iload_n 3, 1) := by decide +kernel
theorem dLW_law_491 : decode code 491 = .ok (.iconst 2, 1) := by decide +kernel
theorem dLW_law_492 : decode code 492 = .ok (.iadd, 1) := by decide +kernel
theorem dLW_law_493 : decode code 493 = .ok (.iaload, 1) := by decide +kernel
theorem dLW_law_494 : decode code 494 = .ok (.invokevirtual 65, 3) := by decide +kernel
theorem dLW_law_497 : decode code 497 = .ok (.if_icmp .eq 5, 3) := by decide +kernel
theorem dLW_law_500 : decode code 500 = .ok (.iconst 0, 1) := by decide +kernel
theorem dLW_law_501 : decode code 501 = .ok (.ireturn, 1) := by decide +kernel
theorem dLW_law_502 : decode code 502 = .ok (.iinc 3 4, 3) := by decide +kernel
theorem dLW_law_505 : decode code 505 = .ok (.goto (-487), 3) := by decide +kernel
theorem dLW_law_508 : decode code 508 = .ok (.iconst 1, 1) := by decide +kernel
theorem dLW_law_509 : decode code 509 = .ok (.ireturn, 1) := by decide +kernel
