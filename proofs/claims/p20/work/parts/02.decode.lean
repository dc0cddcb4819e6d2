theorem d_Ac_init_0 : decode b_Ac_init 0 = .ok (.aload_n 0, 1) := by decide +kernel
theorem d_Ac_init_1 : decode b_Ac_init 1 = .ok (.invokespecial 3, 3) := by decide +kernel
theorem d_Ac_init_4 : decode b_Ac_init 4 = .ok (.aload_n 0, 1) := by decide +kernel
theorem d_Ac_init_5 : decode b_Ac_init 5 = .ok (.bipush 20, 2) := by decide +kernel
theorem d_Ac_init_7 : decode b_Ac_init 7 = .ok (.newarray .int, 2) := by decide +kernel
theorem d_Ac_init_9 : decode b_Ac_init 9 = .ok (.putfield 9, 3) := by decide +kernel
theorem d_Ac_init_12 : decode b_Ac_init 12 = .ok (.return_, 1) := by decide +kernel
theorem d_Ac_body_0 : decode b_Ac_body 0 = .ok (.iload 5, 2) := by decide +kernel
theorem d_Ac_body_2 : decode b_Ac_body 2 = .ok (.bipush 20, 2) := by decide +kernel
theorem d_Ac_body_4 : decode b_Ac_body 4 = .ok (.if_icmp .le 5, 3) := by decide +kernel
theorem d_Ac_body_7 : decode b_Ac_body 7 = .ok (.iconst 0, 1) := by decide +kernel
theorem d_Ac_body_8 : decode b_Ac_body 8 = .ok (.ireturn, 1) := by decide +kernel
theorem d_Ac_body_9 : decode b_Ac_body 9 = .ok (.iload 5, 2) := by decide +kernel
theorem d_Ac_body_11 : decode b_Ac_body 11 = .ok (.iconst 1, 1) := by decide +kernel
theorem d_Ac_body_12 : decode b_Ac_body 12 = .ok (.iadd, 1) := by decide +kernel
theorem d_Ac_body_13 : decode b_Ac_body 13 = .ok (.istore 6, 2) := by decide +kernel
theorem d_Ac_body_15 : decode b_Ac_body 15 = .ok (.iload_n 2, 1) := by decide +kernel
theorem d_Ac_body_16 : decode b_Ac_body 16 = .ok (.iload_n 3, 1) := by decide +kernel
theorem d_Ac_body_17 : decode b_Ac_body 17 = .ok (.invokestatic 15, 3) := by decide +kernel
theorem d_Ac_body_20 : decode b_Ac_body 20 = .ok (.istore 7, 2) := by decide +kernel
theorem d_Ac_body_22 : decode b_Ac_body 22 = .ok (.aload_n 0, 1) := by decide +kernel
theorem d_Ac_body_23 : decode b_Ac_body 23 = .ok (.iload 7, 2) := by decide +kernel
theorem d_Ac_body_25 : decode b_Ac_body 25 = .ok (.invokevirtual 19, 3) := by decide +kernel
theorem d_Ac_body_28 : decode b_Ac_body 28 = .ok (.iload 7, 2) := by decide +kernel
theorem d_Ac_body_30 : decode b_Ac_body 30 = .ok (.lookupswitch 321 #[(10, 98), (11, 106), (12, 126), (20, 143), (30, 162), (40, 180), (50, 210), (51, 227), (60, 245), (70, 266), (71, 299)], 98) := by decide +kernel
theorem d_Ac_body_128 : decode b_Ac_body 128 = .ok (.iload 4, 2) := by decide +kernel
theorem d_Ac_body_130 : decode b_Ac_body 130 = .ok (.aload_n 1, 1) := by decide +kernel
theorem d_Ac_body_131 : decode b_Ac_body 131 = .ok (.getfield 23, 3) := by decide +kernel
theorem d_Ac_body_134 : decode b_Ac_body 134 = .ok (.iadd, 1) := by decide +kernel
theorem d_Ac_body_135 : decode b_Ac_body 135 = .ok (.ireturn, 1) := by decide +kernel
theorem d_Ac_body_136 : decode b_Ac_body 136 = .ok (.aload_n 0, 1) := by decide +kernel
theorem d_Ac_body_137 : decode b_Ac_body 137 = .ok (.aload_n 1, 1) := by decide +kernel
theorem d_Ac_body_138 : decode b_Ac_body 138 = .ok (.aload_n 1, 1) := by decide +kernel
theorem d_Ac_body_139 : decode b_Ac_body 139 = .ok (.getfield 29, 3) := by decide +kernel
theorem d_Ac_body_142 : decode b_Ac_body 142 = .ok (.iconst 0, 1) := by decide +kernel
theorem d_Ac_body_143 : decode b_Ac_body 143 = .ok (.iload 4, 2) := by decide +kernel
theorem d_Ac_body_145 : decode b_Ac_body 145 = .ok (.iload 6, 2) := by decide +kernel
theorem d_Ac_body_147 : decode b_Ac_body 147 = .ok (.invokevirtual 32, 3) := by decide +kernel
theorem d_Ac_body_150 : decode b_Ac_body 150 = .ok (.aload_n 1, 1) := by decide +kernel
theorem d_Ac_body_151 : decode b_Ac_body 151 = .ok (.getfield 36, 3) := by decide +kernel
theorem d_Ac_body_154 : decode b_Ac_body 154 = .ok (.isub, 1) := by decide +kernel
theorem d_Ac_body_155 : decode b_Ac_body 155 = .ok (.ireturn, 1) := by decide +kernel
theorem d_Ac_body_156 : decode b_Ac_body 156 = .ok (.aload_n 0, 1) := by decide +kernel
theorem d_Ac_body_157 : decode b_Ac_body 157 = .ok (.aload_n 1, 1) := by decide +kernel
theorem d_Ac_body_158 : decode b_Ac_body 158 = .ok (.aload_n 1, 1) := by decide +kernel
theorem d_Ac_body_159 : decode b_Ac_body 159 = .ok (.getfield 29, 3) := by decide +kernel
theorem d_Ac_body_162 : decode b_Ac_body 162 = .ok (.iconst 1, 1) := by decide +kernel
theorem d_Ac_body_163 : decode b_Ac_body 163 = .ok (.iload 4, 2) := by decide +kernel
theorem d_Ac_body_165 : decode b_Ac_body 165 = .ok (.iload 6, 2) := by decide +kernel
theorem d_Ac_body_167 : decode b_Ac_body 167 = .ok (.invokevirtual 32, 3) := by decide +kernel
theorem d_Ac_body_170 : decode b_Ac_body 170 = .ok (.iconst 2, 1) := by decide +kernel
theorem d_Ac_body_171 : decode b_Ac_body 171 = .ok (.imul, 1) := by decide +kernel
theorem d_Ac_body_172 : decode b_Ac_body 172 = .ok (.ireturn, 1) := by decide +kernel
theorem d_Ac_body_173 : decode b_Ac_body 173 = .ok (.aload_n 0, 1) := by decide +kernel
theorem d_Ac_body_174 : decode b_Ac_body 174 = .ok (.aload_n 1, 1) := by decide +kernel
theorem d_Ac_body_175 : decode b_Ac_body 175 = .ok (.getstatic 39, 3) := by decide +kernel
theorem d_Ac_body_178 : decode b_Ac_body 178 = .ok (.iconst 1, 1) := by decide +kernel
theorem d_Ac_body_179 : decode b_Ac_body 179 = .ok (.iaload, 1) := by decide +kernel
theorem d_Ac_body_180 : decode b_Ac_body 180 = .ok (.iconst 1, 1) := by decide +kernel
theorem d_Ac_body_181 : decode b_Ac_body 181 = .ok (.iload 4, 2) := by decide +kernel
theorem d_Ac_body_183 : decode b_Ac_body 183 = .ok (.iload 6, 2) := by decide +kernel
theorem d_Ac_body_185 : decode b_Ac_body 185 = .ok (.invokevirtual 32, 3) := by decide +kernel
theorem d_Ac_body_188 : decode b_Ac_body 188 = .ok (.bipush 6, 2) := by decide +kernel
theorem d_Ac_body_190 : decode b_Ac_body 190 = .ok (.ixor, 1) := by decide +kernel
theorem d_Ac_body_191 : decode b_Ac_body 191 = .ok (.ireturn, 1) := by decide +kernel
theorem d_Ac_body_192 : decode b_Ac_body 192 = .ok (.aload_n 0, 1) := by decide +kernel
theorem d_Ac_body_193 : decode b_Ac_body 193 = .ok (.aload_n 1, 1) := by decide +kernel
theorem d_Ac_body_194 : decode b_Ac_body 194 = .ok (.getstatic 39, 3) := by decide +kernel
theorem d_Ac_body_197 : decode b_Ac_body 197 = .ok (.iconst 2, 1) := by decide +kernel
theorem d_Ac_body_198 : decode b_Ac_body 198 = .ok (.iaload, 1) := by decide +kernel
theorem d_Ac_body_199 : decode b_Ac_body 199 = .ok (.iconst 0, 1) := by decide +kernel
theorem d_Ac_body_200 : decode b_Ac_body 200 = .ok (.iload 4, 2) := by decide +kernel
theorem d_Ac_body_202 : decode b_Ac_body 202 = .ok (.iconst 3, 1) := by decide +kernel
theorem d_Ac_body_203 : decode b_Ac_body 203 = .ok (.imul, 1) := by decide +kernel
theorem d_Ac_body_204 : decode b_Ac_body 204 = .ok (.iload 6, 2) := by decide +kernel
theorem d_Ac_body_206 : decode b_Ac_body 206 = .ok (.invokevirtual 32, 3) := by decide +kernel
theorem d_Ac_body_209 : decode b_Ac_body 209 = .ok (.ireturn, 1) := by decide +kernel
theorem d_Ac_body_210 : decode b_Ac_body 210 = .ok (.aload_n 0, 1) := by decide +kernel
theorem d_Ac_body_211 : decode b_Ac_body 211 = .ok (.aload_n 1, 1) := by decide +kernel
theorem d_Ac_body_212 : decode b_Ac_body 212 = .ok (.getstatic 39, 3) := by decide +kernel
theorem d_Ac_body_215 : decode b_Ac_body 215 = .ok (.iconst 3, 1) := by decide +kernel
theorem d_Ac_body_216 : decode b_Ac_body 216 = .ok (.iaload, 1) := by decide +kernel
theorem d_Ac_body_217 : decode b_Ac_body 217 = .ok (.iconst 2, 1) := by decide +kernel
theorem d_Ac_body_218 : decode b_Ac_body 218 = .ok (.iload 4, 2) := by decide +kernel
theorem d_Ac_body_220 : decode b_Ac_body 220 = .ok (.iload 6, 2) := by decide +kernel
theorem d_Ac_body_222 : decode b_Ac_body 222 = .ok (.invokevirtual 32, 3) := by decide +kernel
theorem d_Ac_body_225 : decode b_Ac_body 225 = .ok (.aload_n 0, 1) := by decide +kernel
theorem d_Ac_body_226 : decode b_Ac_body 226 = .ok (.aload_n 1, 1) := by decide +kernel
theorem d_Ac_body_227 : decode b_Ac_body 227 = .ok (.aload_n 1, 1) := by decide +kernel
theorem d_Ac_body_228 : decode b_Ac_body 228 = .ok (.getfield 29, 3) := by decide +kernel
theorem d_Ac_body_231 : decode b_Ac_body 231 = .ok (.iconst 1, 1) := by decide +kernel
theorem d_Ac_body_232 : decode b_Ac_body 232 = .ok (.iconst 1, 1) := by decide +kernel
theorem d_Ac_body_233 : decode b_Ac_body 233 = .ok (.iload 6, 2) := by decide +kernel
theorem d_Ac_body_235 : decode b_Ac_body 235 = .ok (.invokevirtual 32, 3) := by decide +kernel
theorem d_Ac_body_238 : decode b_Ac_body 238 = .ok (.iadd, 1) := by decide +kernel
theorem d_Ac_body_239 : decode b_Ac_body 239 = .ok (.ireturn, 1) := by decide +kernel
theorem d_Ac_body_240 : decode b_Ac_body 240 = .ok (.aload_n 0, 1) := by decide +kernel
theorem d_Ac_body_241 : decode b_Ac_body 241 = .ok (.aload_n 1, 1) := by decide +kernel
theorem d_Ac_body_242 : decode b_Ac_body 242 = .ok (.getstatic 39, 3) := by decide +kernel
theorem d_Ac_body_245 : decode b_Ac_body 245 = .ok (.iconst 4, 1) := by decide +kernel
theorem d_Ac_body_246 : decode b_Ac_body 246 = .ok (.iaload, 1) := by decide +kernel
theorem d_Ac_body_247 : decode b_Ac_body 247 = .ok (.iconst 0, 1) := by decide +kernel
theorem d_Ac_body_248 : decode b_Ac_body 248 = .ok (.iload 4, 2) := by decide +kernel
theorem d_Ac_body_250 : decode b_Ac_body 250 = .ok (.iload 6, 2) := by decide +kernel
theorem d_Ac_body_252 : decode b_Ac_body 252 = .ok (.invokevirtual 32, 3) := by decide +kernel
theorem d_Ac_body_255 : decode b_Ac_body 255 = .ok (.ineg, 1) := by decide +kernel
theorem d_Ac_body_256 : decode b_Ac_body 256 = .ok (.ireturn, 1) := by decide +kernel
theorem d_Ac_body_257 : decode b_Ac_body 257 = .ok (.aload_n 0, 1) := by decide +kernel
theorem d_Ac_body_258 : decode b_Ac_body 258 = .ok (.aload_n 1, 1) := by decide +kernel
theorem d_Ac_body_259 : decode b_Ac_body 259 = .ok (.getstatic 39, 3) := by decide +kernel
theorem d_Ac_body_262 : decode b_Ac_body 262 = .ok (.iconst 4, 1) := by decide +kernel
theorem d_Ac_body_263 : decode b_Ac_body 263 = .ok (.iaload, 1) := by decide +kernel
theorem d_Ac_body_264 : decode b_Ac_body 264 = .ok (.iconst 1, 1) := by decide +kernel
theorem d_Ac_body_265 : decode b_Ac_body 265 = .ok (.iload 4, 2) := by decide +kernel
theorem d_Ac_body_267 : decode b_Ac_body 267 = .ok (.iconst 1, 1) := by decide +kernel
theorem d_Ac_body_268 : decode b_Ac_body 268 = .ok (.iadd, 1) := by decide +kernel
theorem d_Ac_body_269 : decode b_Ac_body 269 = .ok (.iload 6, 2) := by decide +kernel
theorem d_Ac_body_271 : decode b_Ac_body 271 = .ok (.invokevirtual 32, 3) := by decide +kernel
theorem d_Ac_body_274 : decode b_Ac_body 274 = .ok (.ireturn, 1) := by decide +kernel
theorem d_Ac_body_275 : decode b_Ac_body 275 = .ok (.aload_n 0, 1) := by decide +kernel
theorem d_Ac_body_276 : decode b_Ac_body 276 = .ok (.aload_n 1, 1) := by decide +kernel
theorem d_Ac_body_277 : decode b_Ac_body 277 = .ok (.getstatic 39, 3) := by decide +kernel
theorem d_Ac_body_280 : decode b_Ac_body 280 = .ok (.iconst 5, 1) := by decide +kernel
theorem d_Ac_body_281 : decode b_Ac_body 281 = .ok (.iaload, 1) := by decide +kernel
theorem d_Ac_body_282 : decode b_Ac_body 282 = .ok (.iconst 2, 1) := by decide +kernel
theorem d_Ac_body_283 : decode b_Ac_body 283 = .ok (.iload 4, 2) := by decide +kernel
theorem d_Ac_body_285 : decode b_Ac_body 285 = .ok (.aload_n 1, 1) := by decide +kernel
theorem d_Ac_body_286 : decode b_Ac_body 286 = .ok (.getfield 23, 3) := by decide +kernel
theorem d_Ac_body_289 : decode b_Ac_body 289 = .ok (.isub, 1) := by decide +kernel
theorem d_Ac_body_290 : decode b_Ac_body 290 = .ok (.iload 6, 2) := by decide +kernel
theorem d_Ac_body_292 : decode b_Ac_body 292 = .ok (.invokevirtual 32, 3) := by decide +kernel
theorem d_Ac_body_295 : decode b_Ac_body 295 = .ok (.ireturn, 1) := by decide +kernel
theorem d_Ac_body_296 : decode b_Ac_body 296 = .ok (.aload_n 0, 1) := by decide +kernel
theorem d_Ac_body_297 : decode b_Ac_body 297 = .ok (.aload_n 1, 1) := by decide +kernel
theorem d_Ac_body_298 : decode b_Ac_body 298 = .ok (.getstatic 39, 3) := by decide +kernel
theorem d_Ac_body_301 : decode b_Ac_body 301 = .ok (.bipush 6, 2) := by decide +kernel
theorem d_Ac_body_303 : decode b_Ac_body 303 = .ok (.iaload, 1) := by decide +kernel
theorem d_Ac_body_304 : decode b_Ac_body 304 = .ok (.iconst 1, 1) := by decide +kernel
theorem d_Ac_body_305 : decode b_Ac_body 305 = .ok (.iload 4, 2) := by decide +kernel
theorem d_Ac_body_307 : decode b_Ac_body 307 = .ok (.iload 6, 2) := by decide +kernel
theorem d_Ac_body_309 : decode b_Ac_body 309 = .ok (.invokevirtual 32, 3) := by decide +kernel
theorem d_Ac_body_312 : decode b_Ac_body 312 = .ok (.aload_n 0, 1) := by decide +kernel
theorem d_Ac_body_313 : decode b_Ac_body 313 = .ok (.aload_n 1, 1) := by decide +kernel
theorem d_Ac_body_314 : decode b_Ac_body 314 = .ok (.getstatic 39, 3) := by decide +kernel
theorem d_Ac_body_317 : decode b_Ac_body 317 = .ok (.bipush 6, 2) := by decide +kernel
theorem d_Ac_body_319 : decode b_Ac_body 319 = .ok (.iaload, 1) := by decide +kernel
theorem d_Ac_body_320 : decode b_Ac_body 320 = .ok (.iconst 0, 1) := by decide +kernel
theorem d_Ac_body_321 : decode b_Ac_body 321 = .ok (.iconst 2, 1) := by decide +kernel
theorem d_Ac_body_322 : decode b_Ac_body 322 = .ok (.iload 6, 2) := by decide +kernel
theorem d_Ac_body_324 : decode b_Ac_body 324 = .ok (.invokevirtual 32, 3) := by decide +kernel
theorem d_Ac_body_327 : decode b_Ac_body 327 = .ok (.iadd, 1) := by decide +kernel
theorem d_Ac_body_328 : decode b_Ac_body 328 = .ok (.ireturn, 1) := by decide +kernel
theorem d_Ac_body_329 : decode b_Ac_body 329 = .ok (.aload_n 0, 1) := by decide +kernel
theorem d_Ac_body_330 : decode b_Ac_body 330 = .ok (.aload_n 1, 1) := by decide +kernel
theorem d_Ac_body_331 : decode b_Ac_body 331 = .ok (.getstatic 39, 3) := by decide +kernel
theorem d_Ac_body_334 : decode b_Ac_body 334 = .ok (.bipush 6, 2) := by decide +kernel
theorem d_Ac_body_336 : decode b_Ac_body 336 = .ok (.iaload, 1) := by decide +kernel
theorem d_Ac_body_337 : decode b_Ac_body 337 = .ok (.iconst 0, 1) := by decide +kernel
theorem d_Ac_body_338 : decode b_Ac_body 338 = .ok (.iload 4, 2) := by decide +kernel
theorem d_Ac_body_340 : decode b_Ac_body 340 = .ok (.iload 6, 2) := by decide +kernel
theorem d_Ac_body_342 : decode b_Ac_body 342 = .ok (.invokevirtual 32, 3) := by decide +kernel
theorem d_Ac_body_345 : decode b_Ac_body 345 = .ok (.aload_n 1, 1) := by decide +kernel
theorem d_Ac_body_346 : decode b_Ac_body 346 = .ok (.getfield 36, 3) := by decide +kernel
theorem d_Ac_body_349 : decode b_Ac_body 349 = .ok (.ixor, 1) := by decide +kernel
theorem d_Ac_body_350 : decode b_Ac_body 350 = .ok (.ireturn, 1) := by decide +kernel
theorem d_Ac_body_351 : decode b_Ac_body 351 = .ok (.iconst 0, 1) := by decide +kernel
theorem d_Ac_body_352 : decode b_Ac_body 352 = .ok (.ireturn, 1) := by decide +kernel
theorem d_Ac_bodyOf_0 : decode b_Ac_bodyOf 0 = .ok (.iload_n 0, 1) := by decide +kernel
theorem d_Ac_bodyOf_1 : decode b_Ac_bodyOf 1 = .ok (.istore_n 2, 1) := by decide +kernel
theorem d_Ac_bodyOf_2 : decode b_Ac_bodyOf 2 = .ok (.getstatic 39, 3) := by decide +kernel
theorem d_Ac_bodyOf_5 : decode b_Ac_bodyOf 5 = .ok (.arraylength, 1) := by decide +kernel
theorem d_Ac_bodyOf_6 : decode b_Ac_bodyOf 6 = .ok (.istore_n 3, 1) := by decide +kernel
theorem d_Ac_bodyOf_7 : decode b_Ac_bodyOf 7 = .ok (.iload_n 3, 1) := by decide +kernel
theorem d_Ac_bodyOf_8 : decode b_Ac_bodyOf 8 = .ok (.ifCond .le 51, 3) := by decide +kernel
theorem d_Ac_bodyOf_11 : decode b_Ac_bodyOf 11 = .ok (.iconst 3, 1) := by decide +kernel
theorem d_Ac_bodyOf_12 : decode b_Ac_bodyOf 12 = .ok (.iload_n 2, 1) := by decide +kernel
theorem d_Ac_bodyOf_13 : decode b_Ac_bodyOf 13 = .ok (.imul, 1) := by decide +kernel
theorem d_Ac_bodyOf_14 : decode b_Ac_bodyOf 14 = .ok (.iload_n 1, 1) := by decide +kernel
theorem d_Ac_bodyOf_15 : decode b_Ac_bodyOf 15 = .ok (.iadd, 1) := by decide +kernel
theorem d_Ac_bodyOf_16 : decode b_Ac_bodyOf 16 = .ok (.istore 4, 2) := by decide +kernel
theorem d_Ac_bodyOf_18 : decode b_Ac_bodyOf 18 = .ok (.iload 4, 2) := by decide +kernel
theorem d_Ac_bodyOf_20 : decode b_Ac_bodyOf 20 = .ok (.ifCond .lt 28, 3) := by decide +kernel
theorem d_Ac_bodyOf_23 : decode b_Ac_bodyOf 23 = .ok (.iload 4, 2) := by decide +kernel
theorem d_Ac_bodyOf_25 : decode b_Ac_bodyOf 25 = .ok (.getstatic 42, 3) := by decide +kernel
theorem d_Ac_bodyOf_28 : decode b_Ac_bodyOf 28 = .ok (.arraylength, 1) := by decide +kernel
theorem d_Ac_bodyOf_29 : decode b_Ac_bodyOf 29 = .ok (.if_icmp .ge 19, 3) := by decide +kernel
theorem d_Ac_bodyOf_32 : decode b_Ac_bodyOf 32 = .ok (.getstatic 42, 3) := by decide +kernel
theorem d_Ac_bodyOf_35 : decode b_Ac_bodyOf 35 = .ok (.iload 4, 2) := by decide +kernel
theorem d_Ac_bodyOf_37 : decode b_Ac_bodyOf 37 = .ok (.iaload, 1) := by decide +kernel
theorem d_Ac_bodyOf_38 : decode b_Ac_bodyOf 38 = .ok (.ifCond .eq 10, 3) := by decide +kernel
theorem d_Ac_bodyOf_41 : decode b_Ac_bodyOf 41 = .ok (.getstatic 42, 3) := by decide +kernel
theorem d_Ac_bodyOf_44 : decode b_Ac_bodyOf 44 = .ok (.iload 4, 2) := by decide +kernel
theorem d_Ac_bodyOf_46 : decode b_Ac_bodyOf 46 = .ok (.iaload, 1) := by decide +kernel
theorem d_Ac_bodyOf_47 : decode b_Ac_bodyOf 47 = .ok (.ireturn, 1) := by decide +kernel
theorem d_Ac_bodyOf_48 : decode b_Ac_bodyOf 48 = .ok (.iload_n 2, 1) := by decide +kernel
theorem d_Ac_bodyOf_49 : decode b_Ac_bodyOf 49 = .ok (.invokestatic 45, 3) := by decide +kernel
theorem d_Ac_bodyOf_52 : decode b_Ac_bodyOf 52 = .ok (.istore_n 2, 1) := by decide +kernel
theorem d_Ac_bodyOf_53 : decode b_Ac_bodyOf 53 = .ok (.iinc 3 (-1), 3) := by decide +kernel
theorem d_Ac_bodyOf_56 : decode b_Ac_bodyOf 56 = .ok (.goto (-49), 3) := by decide +kernel
theorem d_Ac_bodyOf_59 : decode b_Ac_bodyOf 59 = .ok (.iconst 0, 1) := by decide +kernel
theorem d_Ac_bodyOf_60 : decode b_Ac_bodyOf 60 = .ok (.ireturn, 1) := by decide +kernel
theorem d_Ac_begins_0 : decode b_Ac_begins 0 = .ok (.aload_n 0, 1) := by decide +kernel
theorem d_Ac_begins_1 : decode b_Ac_begins 1 = .ok (.getfield 49, 3) := by decide +kernel
theorem d_Ac_begins_4 : decode b_Ac_begins 4 = .ok (.bipush 20, 2) := by decide +kernel
theorem d_Ac_begins_6 : decode b_Ac_begins 6 = .ok (.if_icmp .ge 13, 3) := by decide +kernel
theorem d_Ac_begins_9 : decode b_Ac_begins 9 = .ok (.aload_n 0, 1) := by decide +kernel
theorem d_Ac_begins_10 : decode b_Ac_begins 10 = .ok (.getfield 9, 3) := by decide +kernel
theorem d_Ac_begins_13 : decode b_Ac_begins 13 = .ok (.aload_n 0, 1) := by decide +kernel
theorem d_Ac_begins_14 : decode b_Ac_begins 14 = .ok (.getfield 49, 3) := by decide +kernel
theorem d_Ac_begins_17 : decode b_Ac_begins 17 = .ok (.iload_n 1, 1) := by decide +kernel
theorem d_Ac_begins_18 : decode b_Ac_begins 18 = .ok (.iastore, 1) := by decide +kernel
theorem d_Ac_begins_19 : decode b_Ac_begins 19 = .ok (.aload_n 0, 1) := by decide +kernel
theorem d_Ac_begins_20 : decode b_Ac_begins 20 = .ok (.dup, 1) := by decide +kernel
theorem d_Ac_begins_21 : decode b_Ac_begins 21 = .ok (.getfield 49, 3) := by decide +kernel
theorem d_Ac_begins_24 : decode b_Ac_begins 24 = .ok (.iconst 1, 1) := by decide +kernel
theorem d_Ac_begins_25 : decode b_Ac_begins 25 = .ok (.iadd, 1) := by decide +kernel
theorem d_Ac_begins_26 : decode b_Ac_begins 26 = .ok (.putfield 49, 3) := by decide +kernel
theorem d_Ac_begins_29 : decode b_Ac_begins 29 = .ok (.return_, 1) := by decide +kernel
theorem d_Is_init_0 : decode b_Is_init 0 = .ok (.aload_n 0, 1) := by decide +kernel
theorem d_Is_init_1 : decode b_Is_init 1 = .ok (.invokespecial 3, 3) := by decide +kernel
theorem d_Is_init_4 : decode b_Is_init 4 = .ok (.aload_n 0, 1) := by decide +kernel
theorem d_Is_init_5 : decode b_Is_init 5 = .ok (.bipush 100, 2) := by decide +kernel
theorem d_Is_init_7 : decode b_Is_init 7 = .ok (.newarray .int, 2) := by decide +kernel
theorem d_Is_init_9 : decode b_Is_init 9 = .ok (.putfield 9, 3) := by decide +kernel
theorem d_Is_init_12 : decode b_Is_init 12 = .ok (.aload_n 0, 1) := by decide +kernel
theorem d_Is_init_13 : decode b_Is_init 13 = .ok (.bipush 10, 2) := by decide +kernel
theorem d_Is_init_15 : decode b_Is_init 15 = .ok (.newarray .int, 2) := by decide +kernel
theorem d_Is_init_17 : decode b_Is_init 17 = .ok (.putfield 15, 3) := by decide +kernel
theorem d_Is_init_20 : decode b_Is_init 20 = .ok (.aload_n 0, 1) := by decide +kernel
theorem d_Is_init_21 : decode b_Is_init 21 = .ok (.bipush 10, 2) := by decide +kernel
theorem d_Is_init_23 : decode b_Is_init 23 = .ok (.newarray .int, 2) := by decide +kernel
theorem d_Is_init_25 : decode b_Is_init 25 = .ok (.putfield 18, 3) := by decide +kernel
theorem d_Is_init_28 : decode b_Is_init 28 = .ok (.aload_n 0, 1) := by decide +kernel
theorem d_Is_init_29 : decode b_Is_init 29 = .ok (.ldc 23, 2) := by decide +kernel
theorem d_Is_init_31 : decode b_Is_init 31 = .ok (.invokevirtual 25, 3) := by decide +kernel
theorem d_Is_init_34 : decode b_Is_init 34 = .ok (.newarray .int, 2) := by decide +kernel
theorem d_Is_init_36 : decode b_Is_init 36 = .ok (.putfield 31, 3) := by decide +kernel
theorem d_Is_init_39 : decode b_Is_init 39 = .ok (.return_, 1) := by decide +kernel
theorem d_Is_clear_0 : decode b_Is_clear 0 = .ok (.aload_n 0, 1) := by decide +kernel
theorem d_Is_clear_1 : decode b_Is_clear 1 = .ok (.iconst 0, 1) := by decide +kernel
theorem d_Is_clear_2 : decode b_Is_clear 2 = .ok (.putfield 34, 3) := by decide +kernel
theorem d_Is_clear_5 : decode b_Is_clear 5 = .ok (.aload_n 0, 1) := by decide +kernel
theorem d_Is_clear_6 : decode b_Is_clear 6 = .ok (.iconst 0, 1) := by decide +kernel
theorem d_Is_clear_7 : decode b_Is_clear 7 = .ok (.putfield 38, 3) := by decide +kernel
theorem d_Is_clear_10 : decode b_Is_clear 10 = .ok (.aload_n 0, 1) := by decide +kernel
theorem d_Is_clear_11 : decode b_Is_clear 11 = .ok (.iconst 0, 1) := by decide +kernel
theorem d_Is_clear_12 : decode b_Is_clear 12 = .ok (.putfield 41, 3) := by decide +kernel
theorem d_Is_clear_15 : decode b_Is_clear 15 = .ok (.return_, 1) := by decide +kernel
theorem d_Is_put_0 : decode b_Is_put 0 = .ok (.aload_n 0, 1) := by decide +kernel
theorem d_Is_put_1 : decode b_Is_put 1 = .ok (.getfield 34, 3) := by decide +kernel
theorem d_Is_put_4 : decode b_Is_put 4 = .ok (.bipush 100, 2) := by decide +kernel
theorem d_Is_put_6 : decode b_Is_put 6 = .ok (.if_icmp .ge 23, 3) := by decide +kernel
theorem d_Is_put_9 : decode b_Is_put 9 = .ok (.aload_n 0, 1) := by decide +kernel
theorem d_Is_put_10 : decode b_Is_put 10 = .ok (.getfield 9, 3) := by decide +kernel
theorem d_Is_put_13 : decode b_Is_put 13 = .ok (.aload_n 0, 1) := by decide +kernel
theorem d_Is_put_14 : decode b_Is_put 14 = .ok (.getfield 34, 3) := by decide +kernel
theorem d_Is_put_17 : decode b_Is_put 17 = .ok (.iload_n 1, 1) := by decide +kernel
theorem d_Is_put_18 : decode b_Is_put 18 = .ok (.iastore, 1) := by decide +kernel
theorem d_Is_put_19 : decode b_Is_put 19 = .ok (.aload_n 0, 1) := by decide +kernel
theorem d_Is_put_20 : decode b_Is_put 20 = .ok (.dup, 1) := by decide +kernel
theorem d_Is_put_21 : decode b_Is_put 21 = .ok (.getfield 34, 3) := by decide +kernel
theorem d_Is_put_24 : decode b_Is_put 24 = .ok (.iconst 1, 1) := by decide +kernel
theorem d_Is_put_25 : decode b_Is_put 25 = .ok (.iadd, 1) := by decide +kernel
theorem d_Is_put_26 : decode b_Is_put 26 = .ok (.putfield 34, 3) := by decide +kernel
theorem d_Is_put_29 : decode b_Is_put 29 = .ok (.return_, 1) := by decide +kernel
theorem d_Is_endClause_0 : decode b_Is_endClause 0 = .ok (.aload_n 0, 1) := by decide +kernel
theorem d_Is_endClause_1 : decode b_Is_endClause 1 = .ok (.getfield 38, 3) := by decide +kernel
theorem d_Is_endClause_4 : decode b_Is_endClause 4 = .ok (.bipush 10, 2) := by decide +kernel
theorem d_Is_endClause_6 : decode b_Is_endClause 6 = .ok (.if_icmp .ge 36, 3) := by decide +kernel
theorem d_Is_endClause_9 : decode b_Is_endClause 9 = .ok (.aload_n 0, 1) := by decide +kernel
theorem d_Is_endClause_10 : decode b_Is_endClause 10 = .ok (.getfield 15, 3) := by decide +kernel
theorem d_Is_endClause_13 : decode b_Is_endClause 13 = .ok (.aload_n 0, 1) := by decide +kernel
theorem d_Is_endClause_14 : decode b_Is_endClause 14 = .ok (.getfield 38, 3) := by decide +kernel
theorem d_Is_endClause_17 : decode b_Is_endClause 17 = .ok (.iload_n 1, 1) := by decide +kernel
theorem d_Is_endClause_18 : decode b_Is_endClause 18 = .ok (.iastore, 1) := by decide +kernel
theorem d_Is_endClause_19 : decode b_Is_endClause 19 = .ok (.aload_n 0, 1) := by decide +kernel
theorem d_Is_endClause_20 : decode b_Is_endClause 20 = .ok (.getfield 18, 3) := by decide +kernel
theorem d_Is_endClause_23 : decode b_Is_endClause 23 = .ok (.aload_n 0, 1) := by decide +kernel
theorem d_Is_endClause_24 : decode b_Is_endClause 24 = .ok (.getfield 38, 3) := by decide +kernel
theorem d_Is_endClause_27 : decode b_Is_endClause 27 = .ok (.aload_n 0, 1) := by decide +kernel
theorem d_Is_endClause_28 : decode b_Is_endClause 28 = .ok (.getfield 34, 3) := by decide +kernel
theorem d_Is_endClause_31 : decode b_Is_endClause 31 = .ok (.iastore, 1) := by decide +kernel
theorem d_Is_endClause_32 : decode b_Is_endClause 32 = .ok (.aload_n 0, 1) := by decide +kernel
theorem d_Is_endClause_33 : decode b_Is_endClause 33 = .ok (.dup, 1) := by decide +kernel
theorem d_Is_endClause_34 : decode b_Is_endClause 34 = .ok (.getfield 38, 3) := by decide +kernel
theorem d_Is_endClause_37 : decode b_Is_endClause 37 = .ok (.iconst 1, 1) := by decide +kernel
theorem d_Is_endClause_38 : decode b_Is_endClause 38 = .ok (.iadd, 1) := by decide +kernel
theorem d_Is_endClause_39 : decode b_Is_endClause 39 = .ok (.putfield 38, 3) := by decide +kernel
theorem d_Is_endClause_42 : decode b_Is_endClause 42 = .ok (.return_, 1) := by decide +kernel
theorem d_Is_sum_0 : decode b_Is_sum 0 = .ok (.aload_n 0, 1) := by decide +kernel
theorem d_Is_sum_1 : decode b_Is_sum 1 = .ok (.getfield 31, 3) := by decide +kernel
theorem d_Is_sum_4 : decode b_Is_sum 4 = .ok (.iconst 0, 1) := by decide +kernel
theorem d_Is_sum_5 : decode b_Is_sum 5 = .ok (.aload_n 1, 1) := by decide +kernel
theorem d_Is_sum_6 : decode b_Is_sum 6 = .ok (.getfield 44, 3) := by decide +kernel
theorem d_Is_sum_9 : decode b_Is_sum 9 = .ok (.iastore, 1) := by decide +kernel
theorem d_Is_sum_10 : decode b_Is_sum 10 = .ok (.aload_n 0, 1) := by decide +kernel
theorem d_Is_sum_11 : decode b_Is_sum 11 = .ok (.getfield 31, 3) := by decide +kernel
theorem d_Is_sum_14 : decode b_Is_sum 14 = .ok (.iconst 1, 1) := by decide +kernel
theorem d_Is_sum_15 : decode b_Is_sum 15 = .ok (.aload_n 1, 1) := by decide +kernel
theorem d_Is_sum_16 : decode b_Is_sum 16 = .ok (.getfield 49, 3) := by decide +kernel
theorem d_Is_sum_19 : decode b_Is_sum 19 = .ok (.iastore, 1) := by decide +kernel
theorem d_Is_sum_20 : decode b_Is_sum 20 = .ok (.aload_n 0, 1) := by decide +kernel
theorem d_Is_sum_21 : decode b_Is_sum 21 = .ok (.getfield 31, 3) := by decide +kernel
theorem d_Is_sum_24 : decode b_Is_sum 24 = .ok (.iconst 2, 1) := by decide +kernel
theorem d_Is_sum_25 : decode b_Is_sum 25 = .ok (.aload_n 1, 1) := by decide +kernel
theorem d_Is_sum_26 : decode b_Is_sum 26 = .ok (.getfield 52, 3) := by decide +kernel
theorem d_Is_sum_29 : decode b_Is_sum 29 = .ok (.iastore, 1) := by decide +kernel
theorem d_Is_sum_30 : decode b_Is_sum 30 = .ok (.aload_n 0, 1) := by decide +kernel
theorem d_Is_sum_31 : decode b_Is_sum 31 = .ok (.getfield 31, 3) := by decide +kernel
theorem d_Is_sum_34 : decode b_Is_sum 34 = .ok (.iconst 3, 1) := by decide +kernel
theorem d_Is_sum_35 : decode b_Is_sum 35 = .ok (.aload_n 1, 1) := by decide +kernel
theorem d_Is_sum_36 : decode b_Is_sum 36 = .ok (.getfield 55, 3) := by decide +kernel
theorem d_Is_sum_39 : decode b_Is_sum 39 = .ok (.bipush 10, 2) := by decide +kernel
theorem d_Is_sum_41 : decode b_Is_sum 41 = .ok (.idiv, 1) := by decide +kernel
theorem d_Is_sum_42 : decode b_Is_sum 42 = .ok (.iastore, 1) := by decide +kernel
theorem d_Is_sum_43 : decode b_Is_sum 43 = .ok (.aload_n 0, 1) := by decide +kernel
theorem d_Is_sum_44 : decode b_Is_sum 44 = .ok (.getfield 31, 3) := by decide +kernel
theorem d_Is_sum_47 : decode b_Is_sum 47 = .ok (.iconst 4, 1) := by decide +kernel
theorem d_Is_sum_48 : decode b_Is_sum 48 = .ok (.iload_n 3, 1) := by decide +kernel
theorem d_Is_sum_49 : decode b_Is_sum 49 = .ok (.iastore, 1) := by decide +kernel
theorem d_Is_sum_50 : decode b_Is_sum 50 = .ok (.aload_n 0, 1) := by decide +kernel
theorem d_Is_sum_51 : decode b_Is_sum 51 = .ok (.getfield 31, 3) := by decide +kernel
theorem d_Is_sum_54 : decode b_Is_sum 54 = .ok (.iconst 5, 1) := by decide +kernel
theorem d_Is_sum_55 : decode b_Is_sum 55 = .ok (.iload_n 2, 1) := by decide +kernel
theorem d_Is_sum_56 : decode b_Is_sum 56 = .ok (.bipush 10, 2) := by decide +kernel
theorem d_Is_sum_58 : decode b_Is_sum 58 = .ok (.irem, 1) := by decide +kernel
theorem d_Is_sum_59 : decode b_Is_sum 59 = .ok (.iastore, 1) := by decide +kernel
theorem d_Is_sum_60 : decode b_Is_sum 60 = .ok (.aload_n 1, 1) := by decide +kernel
theorem d_Is_sum_61 : decode b_Is_sum 61 = .ok (.getfield 55, 3) := by decide +kernel
theorem d_Is_sum_64 : decode b_Is_sum 64 = .ok (.istore 4, 2) := by decide +kernel
theorem d_Is_sum_66 : decode b_Is_sum 66 = .ok (.iconst 0, 1) := by decide +kernel
theorem d_Is_sum_67 : decode b_Is_sum 67 = .ok (.istore 5, 2) := by decide +kernel
theorem d_Is_sum_69 : decode b_Is_sum 69 = .ok (.iconst 0, 1) := by decide +kernel
theorem d_Is_sum_70 : decode b_Is_sum 70 = .ok (.istore 6, 2) := by decide +kernel
theorem d_Is_sum_72 : decode b_Is_sum 72 = .ok (.iload 6, 2) := by decide +kernel
theorem d_Is_sum_74 : decode b_Is_sum 74 = .ok (.aload_n 0, 1) := by decide +kernel
theorem d_Is_sum_75 : decode b_Is_sum 75 = .ok (.getfield 38, 3) := by decide +kernel
theorem d_Is_sum_78 : decode b_Is_sum 78 = .ok (.if_icmp .ge 46, 3) := by decide +kernel
theorem d_Is_sum_81 : decode b_Is_sum 81 = .ok (.aload_n 0, 1) := by decide +kernel
theorem d_Is_sum_82 : decode b_Is_sum 82 = .ok (.iload 5, 2) := by decide +kernel
theorem d_Is_sum_84 : decode b_Is_sum 84 = .ok (.aload_n 0, 1) := by decide +kernel
theorem d_Is_sum_85 : decode b_Is_sum 85 = .ok (.getfield 18, 3) := by decide +kernel
theorem d_Is_sum_88 : decode b_Is_sum 88 = .ok (.iload 6, 2) := by decide +kernel
theorem d_Is_sum_90 : decode b_Is_sum 90 = .ok (.iaload, 1) := by decide +kernel
theorem d_Is_sum_91 : decode b_Is_sum 91 = .ok (.invokevirtual 58, 3) := by decide +kernel
theorem d_Is_sum_94 : decode b_Is_sum 94 = .ok (.ifCond .eq 15, 3) := by decide +kernel
theorem d_Is_sum_97 : decode b_Is_sum 97 = .ok (.iload 4, 2) := by decide +kernel
theorem d_Is_sum_99 : decode b_Is_sum 99 = .ok (.aload_n 0, 1) := by decide +kernel
theorem d_Is_sum_100 : decode b_Is_sum 100 = .ok (.getfield 15, 3) := by decide +kernel
theorem d_Is_sum_103 : decode b_Is_sum 103 = .ok (.iload 6, 2) := by decide +kernel
theorem d_Is_sum_105 : decode b_Is_sum 105 = .ok (.iaload, 1) := by decide +kernel
theorem d_Is_sum_106 : decode b_Is_sum 106 = .ok (.iadd, 1) := by decide +kernel
theorem d_Is_sum_107 : decode b_Is_sum 107 = .ok (.istore 4, 2) := by decide +kernel
theorem d_Is_sum_109 : decode b_Is_sum 109 = .ok (.aload_n 0, 1) := by decide +kernel
theorem d_Is_sum_110 : decode b_Is_sum 110 = .ok (.getfield 18, 3) := by decide +kernel
theorem d_Is_sum_113 : decode b_Is_sum 113 = .ok (.iload 6, 2) := by decide +kernel
theorem d_Is_sum_115 : decode b_Is_sum 115 = .ok (.iaload, 1) := by decide +kernel
theorem d_Is_sum_116 : decode b_Is_sum 116 = .ok (.istore 5, 2) := by decide +kernel
theorem d_Is_sum_118 : decode b_Is_sum 118 = .ok (.iinc 6 1, 3) := by decide +kernel
theorem d_Is_sum_121 : decode b_Is_sum 121 = .ok (.goto (-49), 3) := by decide +kernel
theorem d_Is_sum_124 : decode b_Is_sum 124 = .ok (.iload 4, 2) := by decide +kernel
theorem d_Is_sum_126 : decode b_Is_sum 126 = .ok (.ireturn, 1) := by decide +kernel
theorem d_Is_isSo_0 : decode b_Is_isSo 0 = .ok (.iconst 0, 1) := by decide +kernel
theorem d_Is_isSo_1 : decode b_Is_isSo 1 = .ok (.istore_n 3, 1) := by decide +kernel
theorem d_Is_isSo_2 : decode b_Is_isSo 2 = .ok (.iload_n 1, 1) := by decide +kernel
theorem d_Is_isSo_3 : decode b_Is_isSo 3 = .ok (.istore 4, 2) := by decide +kernel
theorem d_Is_isSo_5 : decode b_Is_isSo 5 = .ok (.iload 4, 2) := by decide +kernel
theorem d_Is_isSo_7 : decode b_Is_isSo 7 = .ok (.iload_n 2, 1) := by decide +kernel
theorem d_Is_isSo_8 : decode b_Is_isSo 8 = .ok (.if_icmp .ge 87, 3) := by decide +kernel
theorem d_Is_isSo_11 : decode b_Is_isSo 11 = .ok (.aload_n 0, 1) := by decide +kernel
theorem d_Is_isSo_12 : decode b_Is_isSo 12 = .ok (.getfield 9, 3) := by decide +kernel
theorem d_Is_isSo_15 : decode b_Is_isSo 15 = .ok (.iload 4, 2) := by decide +kernel
theorem d_Is_isSo_17 : decode b_Is_isSo 17 = .ok (.iaload, 1) := by decide +kernel
theorem d_Is_isSo_18 : decode b_Is_isSo 18 = .ok (.istore 5, 2) := by decide +kernel
theorem d_Is_isSo_20 : decode b_Is_isSo 20 = .ok (.iload_n 3, 1) := by decide +kernel
theorem d_Is_isSo_21 : decode b_Is_isSo 21 = .ok (.iconst 1, 1) := by decide +kernel
theorem d_Is_isSo_22 : decode b_Is_isSo 22 = .ok (.iand, 1) := by decide +kernel
theorem d_Is_isSo_23 : decode b_Is_isSo 23 = .ok (.istore 6, 2) := by decide +kernel
theorem d_Is_isSo_25 : decode b_Is_isSo 25 = .ok (.iload 5, 2) := by decide +kernel
theorem d_Is_isSo_27 : decode b_Is_isSo 27 = .ok (.iconst (-1), 1) := by decide +kernel
theorem d_Is_isSo_28 : decode b_Is_isSo 28 = .ok (.if_icmp .ne 10, 3) := by decide +kernel
theorem d_Is_isSo_31 : decode b_Is_isSo 31 = .ok (.iload_n 3, 1) := by decide +kernel
theorem d_Is_isSo_32 : decode b_Is_isSo 32 = .ok (.iconst 1, 1) := by decide +kernel
theorem d_Is_isSo_33 : decode b_Is_isSo 33 = .ok (.ixor, 1) := by decide +kernel
theorem d_Is_isSo_34 : decode b_Is_isSo 34 = .ok (.istore_n 3, 1) := by decide +kernel
theorem d_Is_isSo_35 : decode b_Is_isSo 35 = .ok (.goto 54, 3) := by decide +kernel
theorem d_Is_isSo_38 : decode b_Is_isSo 38 = .ok (.iload 5, 2) := by decide +kernel
theorem d_Is_isSo_40 : decode b_Is_isSo 40 = .ok (.bipush (-2), 2) := by decide +kernel
theorem d_Is_isSo_42 : decode b_Is_isSo 42 = .ok (.if_icmp .ne 16, 3) := by decide +kernel
theorem d_Is_isSo_45 : decode b_Is_isSo 45 = .ok (.iload_n 3, 1) := by decide +kernel
theorem d_Is_isSo_46 : decode b_Is_isSo 46 = .ok (.iconst 1, 1) := by decide +kernel
theorem d_Is_isSo_47 : decode b_Is_isSo 47 = .ok (.iushr, 1) := by decide +kernel
theorem d_Is_isSo_48 : decode b_Is_isSo 48 = .ok (.bipush (-2), 2) := by decide +kernel
theorem d_Is_isSo_50 : decode b_Is_isSo 50 = .ok (.iload 6, 2) := by decide +kernel
theorem d_Is_isSo_52 : decode b_Is_isSo 52 = .ok (.ior, 1) := by decide +kernel
theorem d_Is_isSo_53 : decode b_Is_isSo 53 = .ok (.iand, 1) := by decide +kernel
theorem d_Is_isSo_54 : decode b_Is_isSo 54 = .ok (.istore_n 3, 1) := by decide +kernel
theorem d_Is_isSo_55 : decode b_Is_isSo 55 = .ok (.goto 34, 3) := by decide +kernel
theorem d_Is_isSo_58 : decode b_Is_isSo 58 = .ok (.iload 5, 2) := by decide +kernel
theorem d_Is_isSo_60 : decode b_Is_isSo 60 = .ok (.bipush (-3), 2) := by decide +kernel
theorem d_Is_isSo_62 : decode b_Is_isSo 62 = .ok (.if_icmp .ne 13, 3) := by decide +kernel
theorem d_Is_isSo_65 : decode b_Is_isSo 65 = .ok (.iload_n 3, 1) := by decide +kernel
theorem d_Is_isSo_66 : decode b_Is_isSo 66 = .ok (.iconst 1, 1) := by decide +kernel
theorem d_Is_isSo_67 : decode b_Is_isSo 67 = .ok (.iushr, 1) := by decide +kernel
theorem d_Is_isSo_68 : decode b_Is_isSo 68 = .ok (.iload 6, 2) := by decide +kernel
theorem d_Is_isSo_70 : decode b_Is_isSo 70 = .ok (.ior, 1) := by decide +kernel
theorem d_Is_isSo_71 : decode b_Is_isSo 71 = .ok (.istore_n 3, 1) := by decide +kernel
theorem d_Is_isSo_72 : decode b_Is_isSo 72 = .ok (.goto 17, 3) := by decide +kernel
theorem d_Is_isSo_75 : decode b_Is_isSo 75 = .ok (.iload_n 3, 1) := by decide +kernel
theorem d_Is_isSo_76 : decode b_Is_isSo 76 = .ok (.iconst 1, 1) := by decide +kernel
theorem d_Is_isSo_77 : decode b_Is_isSo 77 = .ok (.ishl, 1) := by decide +kernel
theorem d_Is_isSo_78 : decode b_Is_isSo 78 = .ok (.aload_n 0, 1) := by decide +kernel
theorem d_Is_isSo_79 : decode b_Is_isSo 79 = .ok (.iload 5, 2) := by decide +kernel
theorem d_Is_isSo_81 : decode b_Is_isSo 81 = .ok (.invokevirtual 62, 3) := by decide +kernel
theorem d_Is_isSo_84 : decode b_Is_isSo 84 = .ok (.invokestatic 66, 3) := by decide +kernel
theorem d_Is_isSo_87 : decode b_Is_isSo 87 = .ok (.ior, 1) := by decide +kernel
theorem d_Is_isSo_88 : decode b_Is_isSo 88 = .ok (.istore_n 3, 1) := by decide +kernel
theorem d_Is_isSo_89 : decode b_Is_isSo 89 = .ok (.iinc 4 1, 3) := by decide +kernel
theorem d_Is_isSo_92 : decode b_Is_isSo 92 = .ok (.goto (-87), 3) := by decide +kernel
theorem d_Is_isSo_95 : decode b_Is_isSo 95 = .ok (.iload_n 3, 1) := by decide +kernel
theorem d_Is_isSo_96 : decode b_Is_isSo 96 = .ok (.iconst 1, 1) := by decide +kernel
theorem d_Is_isSo_97 : decode b_Is_isSo 97 = .ok (.iand, 1) := by decide +kernel
theorem d_Is_isSo_98 : decode b_Is_isSo 98 = .ok (.iconst 1, 1) := by decide +kernel
theorem d_Is_isSo_99 : decode b_Is_isSo 99 = .ok (.if_icmp .ne 7, 3) := by decide +kernel
theorem d_Is_isSo_102 : decode b_Is_isSo 102 = .ok (.iconst 1, 1) := by decide +kernel
theorem d_Is_isSo_103 : decode b_Is_isSo 103 = .ok (.goto 4, 3) := by decide +kernel
theorem d_Is_isSo_106 : decode b_Is_isSo 106 = .ok (.iconst 0, 1) := by decide +kernel
theorem d_Is_isSo_107 : decode b_Is_isSo 107 = .ok (.ireturn, 1) := by decide +kernel
theorem d_Is_testCode_0 : decode b_Is_testCode 0 = .ok (.iload_n 0, 1) := by decide +kernel
theorem d_Is_testCode_1 : decode b_Is_testCode 1 = .ok (.iconst 3, 1) := by decide +kernel
theorem d_Is_testCode_2 : decode b_Is_testCode 2 = .ok (.imul, 1) := by decide +kernel
theorem d_Is_testCode_3 : decode b_Is_testCode 3 = .ok (.iload_n 1, 1) := by decide +kernel
theorem d_Is_testCode_4 : decode b_Is_testCode 4 = .ok (.iadd, 1) := by decide +kernel
theorem d_Is_testCode_5 : decode b_Is_testCode 5 = .ok (.bipush 100, 2) := by decide +kernel
theorem d_Is_testCode_7 : decode b_Is_testCode 7 = .ok (.imul, 1) := by decide +kernel
theorem d_Is_testCode_8 : decode b_Is_testCode 8 = .ok (.iload_n 2, 1) := by decide +kernel
theorem d_Is_testCode_9 : decode b_Is_testCode 9 = .ok (.iadd, 1) := by decide +kernel
theorem d_Is_testCode_10 : decode b_Is_testCode 10 = .ok (.ireturn, 1) := by decide +kernel
theorem d_Is_isTestSo_0 : decode b_Is_isTestSo 0 = .ok (.iload_n 1, 1) := by decide +kernel
theorem d_Is_isTestSo_1 : decode b_Is_isTestSo 1 = .ok (.sipush 300, 3) := by decide +kernel
theorem d_Is_isTestSo_4 : decode b_Is_isTestSo 4 = .ok (.idiv, 1) := by decide +kernel
theorem d_Is_isTestSo_5 : decode b_Is_isTestSo 5 = .ok (.istore_n 2, 1) := by decide +kernel
theorem d_Is_isTestSo_6 : decode b_Is_isTestSo 6 = .ok (.iload_n 1, 1) := by decide +kernel
theorem d_Is_isTestSo_7 : decode b_Is_isTestSo 7 = .ok (.bipush 100, 2) := by decide +kernel
theorem d_Is_isTestSo_9 : decode b_Is_isTestSo 9 = .ok (.idiv, 1) := by decide +kernel
theorem d_Is_isTestSo_10 : decode b_Is_isTestSo 10 = .ok (.iconst 3, 1) := by decide +kernel
theorem d_Is_isTestSo_11 : decode b_Is_isTestSo 11 = .ok (.irem, 1) := by decide +kernel
theorem d_Is_isTestSo_12 : decode b_Is_isTestSo 12 = .ok (.istore_n 3, 1) := by decide +kernel
theorem d_Is_isTestSo_13 : decode b_Is_isTestSo 13 = .ok (.iload_n 2, 1) := by decide +kernel
theorem d_Is_isTestSo_14 : decode b_Is_isTestSo 14 = .ok (.ifCond .lt 12, 3) := by decide +kernel
theorem d_Is_isTestSo_17 : decode b_Is_isTestSo 17 = .ok (.iload_n 2, 1) := by decide +kernel
theorem d_Is_isTestSo_18 : decode b_Is_isTestSo 18 = .ok (.aload_n 0, 1) := by decide +kernel
theorem d_Is_isTestSo_19 : decode b_Is_isTestSo 19 = .ok (.getfield 31, 3) := by decide +kernel
theorem d_Is_isTestSo_22 : decode b_Is_isTestSo 22 = .ok (.arraylength, 1) := by decide +kernel
theorem d_Is_isTestSo_23 : decode b_Is_isTestSo 23 = .ok (.if_icmp .lt 5, 3) := by decide +kernel
theorem d_Is_isTestSo_26 : decode b_Is_isTestSo 26 = .ok (.iconst 0, 1) := by decide +kernel
theorem d_Is_isTestSo_27 : decode b_Is_isTestSo 27 = .ok (.ireturn, 1) := by decide +kernel
theorem d_Is_isTestSo_28 : decode b_Is_isTestSo 28 = .ok (.aload_n 0, 1) := by decide +kernel
theorem d_Is_isTestSo_29 : decode b_Is_isTestSo 29 = .ok (.getfield 31, 3) := by decide +kernel
theorem d_Is_isTestSo_32 : decode b_Is_isTestSo 32 = .ok (.iload_n 2, 1) := by decide +kernel
theorem d_Is_isTestSo_33 : decode b_Is_isTestSo 33 = .ok (.iaload, 1) := by decide +kernel
theorem d_Is_isTestSo_34 : decode b_Is_isTestSo 34 = .ok (.istore 4, 2) := by decide +kernel
theorem d_Is_isTestSo_36 : decode b_Is_isTestSo 36 = .ok (.iload_n 1, 1) := by decide +kernel
theorem d_Is_isTestSo_37 : decode b_Is_isTestSo 37 = .ok (.bipush 100, 2) := by decide +kernel
theorem d_Is_isTestSo_39 : decode b_Is_isTestSo 39 = .ok (.irem, 1) := by decide +kernel
theorem d_Is_isTestSo_40 : decode b_Is_isTestSo 40 = .ok (.istore 5, 2) := by decide +kernel
theorem d_Is_isTestSo_42 : decode b_Is_isTestSo 42 = .ok (.iload_n 3, 1) := by decide +kernel
theorem d_Is_isTestSo_43 : decode b_Is_isTestSo 43 = .ok (.ifCond .ne 18, 3) := by decide +kernel
theorem d_Is_isTestSo_46 : decode b_Is_isTestSo 46 = .ok (.iload 4, 2) := by decide +kernel
theorem d_Is_isTestSo_48 : decode b_Is_isTestSo 48 = .ok (.iload 5, 2) := by decide +kernel
theorem d_Is_isTestSo_50 : decode b_Is_isTestSo 50 = .ok (.if_icmp .ge 7, 3) := by decide +kernel
theorem d_Is_isTestSo_53 : decode b_Is_isTestSo 53 = .ok (.iconst 1, 1) := by decide +kernel
theorem d_Is_isTestSo_54 : decode b_Is_isTestSo 54 = .ok (.goto 39, 3) := by decide +kernel
theorem d_Is_isTestSo_57 : decode b_Is_isTestSo 57 = .ok (.iconst 0, 1) := by decide +kernel
theorem d_Is_isTestSo_58 : decode b_Is_isTestSo 58 = .ok (.goto 35, 3) := by decide +kernel
theorem d_Is_isTestSo_61 : decode b_Is_isTestSo 61 = .ok (.iload_n 3, 1) := by decide +kernel
theorem d_Is_isTestSo_62 : decode b_Is_isTestSo 62 = .ok (.iconst 1, 1) := by decide +kernel
theorem d_Is_isTestSo_63 : decode b_Is_isTestSo 63 = .ok (.if_icmp .ne 18, 3) := by decide +kernel
theorem d_Is_isTestSo_66 : decode b_Is_isTestSo 66 = .ok (.iload 4, 2) := by decide +kernel
theorem d_Is_isTestSo_68 : decode b_Is_isTestSo 68 = .ok (.iload 5, 2) := by decide +kernel
theorem d_Is_isTestSo_70 : decode b_Is_isTestSo 70 = .ok (.if_icmp .ne 7, 3) := by decide +kernel
theorem d_Is_isTestSo_73 : decode b_Is_isTestSo 73 = .ok (.iconst 1, 1) := by decide +kernel
theorem d_Is_isTestSo_74 : decode b_Is_isTestSo 74 = .ok (.goto 19, 3) := by decide +kernel
theorem d_Is_isTestSo_77 : decode b_Is_isTestSo 77 = .ok (.iconst 0, 1) := by decide +kernel
theorem d_Is_isTestSo_78 : decode b_Is_isTestSo 78 = .ok (.goto 15, 3) := by decide +kernel
theorem d_Is_isTestSo_81 : decode b_Is_isTestSo 81 = .ok (.iload 4, 2) := by decide +kernel
theorem d_Is_isTestSo_83 : decode b_Is_isTestSo 83 = .ok (.iload 5, 2) := by decide +kernel
theorem d_Is_isTestSo_85 : decode b_Is_isTestSo 85 = .ok (.if_icmp .le 7, 3) := by decide +kernel
theorem d_Is_isTestSo_88 : decode b_Is_isTestSo 88 = .ok (.iconst 1, 1) := by decide +kernel
theorem d_Is_isTestSo_89 : decode b_Is_isTestSo 89 = .ok (.goto 4, 3) := by decide +kernel
theorem d_Is_isTestSo_92 : decode b_Is_isTestSo 92 = .ok (.iconst 0, 1) := by decide +kernel
theorem d_Is_isTestSo_93 : decode b_Is_isTestSo 93 = .ok (.ireturn, 1) := by decide +kernel
theorem d_Mo_init_0 : decode b_Mo_init 0 = .ok (.aload_n 0, 1) := by decide +kernel
theorem d_Mo_init_1 : decode b_Mo_init 1 = .ok (.invokespecial 3, 3) := by decide +kernel
theorem d_Mo_init_4 : decode b_Mo_init 4 = .ok (.aload_n 0, 1) := by decide +kernel
theorem d_Mo_init_5 : decode b_Mo_init 5 = .ok (.iconst 4, 1) := by decide +kernel
theorem d_Mo_init_6 : decode b_Mo_init 6 = .ok (.newarray .int, 2) := by decide +kernel
theorem d_Mo_init_8 : decode b_Mo_init 8 = .ok (.putfield 9, 3) := by decide +kernel
theorem d_Mo_init_11 : decode b_Mo_init 11 = .ok (.aload_n 0, 1) := by decide +kernel
theorem d_Mo_init_12 : decode b_Mo_init 12 = .ok (.iload_n 1, 1) := by decide +kernel
theorem d_Mo_init_13 : decode b_Mo_init 13 = .ok (.putfield 15, 3) := by decide +kernel
theorem d_Mo_init_16 : decode b_Mo_init 16 = .ok (.return_, 1) := by decide +kernel
theorem d_Mo_comes_0 : decode b_Mo_comes 0 = .ok (.aload_n 0, 1) := by decide +kernel
theorem d_Mo_comes_1 : decode b_Mo_comes 1 = .ok (.iload_n 1, 1) := by decide +kernel
theorem d_Mo_comes_2 : decode b_Mo_comes 2 = .ok (.putfield 19, 3) := by decide +kernel
theorem d_Mo_comes_5 : decode b_Mo_comes 5 = .ok (.aload_n 0, 1) := by decide +kernel
theorem d_Mo_comes_6 : decode b_Mo_comes 6 = .ok (.iload_n 2, 1) := by decide +kernel
theorem d_Mo_comes_7 : decode b_Mo_comes 7 = .ok (.putfield 22, 3) := by decide +kernel
theorem d_Mo_comes_10 : decode b_Mo_comes 10 = .ok (.aload_n 0, 1) := by decide +kernel
theorem d_Mo_comes_11 : decode b_Mo_comes 11 = .ok (.iload_n 3, 1) := by decide +kernel
theorem d_Mo_comes_12 : decode b_Mo_comes 12 = .ok (.putfield 25, 3) := by decide +kernel
theorem d_Mo_comes_15 : decode b_Mo_comes 15 = .ok (.aload_n 0, 1) := by decide +kernel
theorem d_Mo_comes_16 : decode b_Mo_comes 16 = .ok (.iconst 0, 1) := by decide +kernel
theorem d_Mo_comes_17 : decode b_Mo_comes 17 = .ok (.putfield 28, 3) := by decide +kernel
theorem d_Mo_comes_20 : decode b_Mo_comes 20 = .ok (.aload_n 0, 1) := by decide +kernel
theorem d_Mo_comes_21 : decode b_Mo_comes 21 = .ok (.iconst 0, 1) := by decide +kernel
theorem d_Mo_comes_22 : decode b_Mo_comes 22 = .ok (.putfield 31, 3) := by decide +kernel
theorem d_Mo_comes_25 : decode b_Mo_comes 25 = .ok (.aload_n 0, 1) := by decide +kernel
theorem d_Mo_comes_26 : decode b_Mo_comes 26 = .ok (.iconst 0, 1) := by decide +kernel
theorem d_Mo_comes_27 : decode b_Mo_comes 27 = .ok (.putfield 34, 3) := by decide +kernel
theorem d_Mo_comes_30 : decode b_Mo_comes 30 = .ok (.iconst 0, 1) := by decide +kernel
theorem d_Mo_comes_31 : decode b_Mo_comes 31 = .ok (.istore 4, 2) := by decide +kernel
theorem d_Mo_comes_33 : decode b_Mo_comes 33 = .ok (.iload 4, 2) := by decide +kernel
theorem d_Mo_comes_35 : decode b_Mo_comes 35 = .ok (.iconst 4, 1) := by decide +kernel
theorem d_Mo_comes_36 : decode b_Mo_comes 36 = .ok (.if_icmp .ge 17, 3) := by decide +kernel
theorem d_Mo_comes_39 : decode b_Mo_comes 39 = .ok (.aload_n 0, 1) := by decide +kernel
theorem d_Mo_comes_40 : decode b_Mo_comes 40 = .ok (.getfield 9, 3) := by decide +kernel
theorem d_Mo_comes_43 : decode b_Mo_comes 43 = .ok (.iload 4, 2) := by decide +kernel
theorem d_Mo_comes_45 : decode b_Mo_comes 45 = .ok (.iconst 0, 1) := by decide +kernel
theorem d_Mo_comes_46 : decode b_Mo_comes 46 = .ok (.iastore, 1) := by decide +kernel
theorem d_Mo_comes_47 : decode b_Mo_comes 47 = .ok (.iinc 4 1, 3) := by decide +kernel
theorem d_Mo_comes_50 : decode b_Mo_comes 50 = .ok (.goto (-17), 3) := by decide +kernel
theorem d_Mo_comes_53 : decode b_Mo_comes 53 = .ok (.return_, 1) := by decide +kernel
theorem d_Mo_becomes_0 : decode b_Mo_becomes 0 = .ok (.aload_n 0, 1) := by decide +kernel
theorem d_Mo_becomes_1 : decode b_Mo_becomes 1 = .ok (.aload_n 1, 1) := by decide +kernel
theorem d_Mo_becomes_2 : decode b_Mo_becomes 2 = .ok (.getfield 19, 3) := by decide +kernel
theorem d_Mo_becomes_5 : decode b_Mo_becomes 5 = .ok (.putfield 19, 3) := by decide +kernel
theorem d_Mo_becomes_8 : decode b_Mo_becomes 8 = .ok (.aload_n 0, 1) := by decide +kernel
theorem d_Mo_becomes_9 : decode b_Mo_becomes 9 = .ok (.aload_n 1, 1) := by decide +kernel
theorem d_Mo_becomes_10 : decode b_Mo_becomes 10 = .ok (.getfield 22, 3) := by decide +kernel
theorem d_Mo_becomes_13 : decode b_Mo_becomes 13 = .ok (.putfield 22, 3) := by decide +kernel
theorem d_Mo_becomes_16 : decode b_Mo_becomes 16 = .ok (.aload_n 0, 1) := by decide +kernel
theorem d_Mo_becomes_17 : decode b_Mo_becomes 17 = .ok (.aload_n 1, 1) := by decide +kernel
theorem d_Mo_becomes_18 : decode b_Mo_becomes 18 = .ok (.getfield 25, 3) := by decide +kernel
theorem d_Mo_becomes_21 : decode b_Mo_becomes 21 = .ok (.putfield 25, 3) := by decide +kernel
theorem d_Mo_becomes_24 : decode b_Mo_becomes 24 = .ok (.aload_n 0, 1) := by decide +kernel
theorem d_Mo_becomes_25 : decode b_Mo_becomes 25 = .ok (.aload_n 1, 1) := by decide +kernel
theorem d_Mo_becomes_26 : decode b_Mo_becomes 26 = .ok (.getfield 28, 3) := by decide +kernel
theorem d_Mo_becomes_29 : decode b_Mo_becomes 29 = .ok (.putfield 28, 3) := by decide +kernel
theorem d_Mo_becomes_32 : decode b_Mo_becomes 32 = .ok (.aload_n 0, 1) := by decide +kernel
theorem d_Mo_becomes_33 : decode b_Mo_becomes 33 = .ok (.aload_n 1, 1) := by decide +kernel
theorem d_Mo_becomes_34 : decode b_Mo_becomes 34 = .ok (.getfield 31, 3) := by decide +kernel
theorem d_Mo_becomes_37 : decode b_Mo_becomes 37 = .ok (.putfield 31, 3) := by decide +kernel
theorem d_Mo_becomes_40 : decode b_Mo_becomes 40 = .ok (.aload_n 0, 1) := by decide +kernel
theorem d_Mo_becomes_41 : decode b_Mo_becomes 41 = .ok (.aload_n 1, 1) := by decide +kernel
theorem d_Mo_becomes_42 : decode b_Mo_becomes 42 = .ok (.getfield 34, 3) := by decide +kernel
theorem d_Mo_becomes_45 : decode b_Mo_becomes 45 = .ok (.putfield 34, 3) := by decide +kernel
theorem d_Mo_becomes_48 : decode b_Mo_becomes 48 = .ok (.iconst 0, 1) := by decide +kernel
theorem d_Mo_becomes_49 : decode b_Mo_becomes 49 = .ok (.istore_n 2, 1) := by decide +kernel
theorem d_Mo_becomes_50 : decode b_Mo_becomes 50 = .ok (.iload_n 2, 1) := by decide +kernel
theorem d_Mo_becomes_51 : decode b_Mo_becomes 51 = .ok (.iconst 4, 1) := by decide +kernel
theorem d_Mo_becomes_52 : decode b_Mo_becomes 52 = .ok (.if_icmp .ge 21, 3) := by decide +kernel
theorem d_Mo_becomes_55 : decode b_Mo_becomes 55 = .ok (.aload_n 0, 1) := by decide +kernel
theorem d_Mo_becomes_56 : decode b_Mo_becomes 56 = .ok (.getfield 9, 3) := by decide +kernel
theorem d_Mo_becomes_59 : decode b_Mo_becomes 59 = .ok (.iload_n 2, 1) := by decide +kernel
theorem d_Mo_becomes_60 : decode b_Mo_becomes 60 = .ok (.aload_n 1, 1) := by decide +kernel
theorem d_Mo_becomes_61 : decode b_Mo_becomes 61 = .ok (.getfield 9, 3) := by decide +kernel
theorem d_Mo_becomes_64 : decode b_Mo_becomes 64 = .ok (.iload_n 2, 1) := by decide +kernel
theorem d_Mo_becomes_65 : decode b_Mo_becomes 65 = .ok (.iaload, 1) := by decide +kernel
theorem d_Mo_becomes_66 : decode b_Mo_becomes 66 = .ok (.iastore, 1) := by decide +kernel
theorem d_Mo_becomes_67 : decode b_Mo_becomes 67 = .ok (.iinc 2 1, 3) := by decide +kernel
theorem d_Mo_becomes_70 : decode b_Mo_becomes 70 = .ok (.goto (-20), 3) := by decide +kernel
theorem d_Mo_becomes_73 : decode b_Mo_becomes 73 = .ok (.return_, 1) := by decide +kernel
theorem d_Mo_painBy_0 : decode b_Mo_painBy 0 = .ok (.aload_n 0, 1) := by decide +kernel
theorem d_Mo_painBy_1 : decode b_Mo_painBy 1 = .ok (.getfield 19, 3) := by decide +kernel
theorem d_Mo_painBy_4 : decode b_Mo_painBy 4 = .ok (.tableswitch 96 1 6 #[40, 44, 48, 55, 64, 78], 40) := by decide +kernel
theorem d_Mo_painBy_44 : decode b_Mo_painBy 44 = .ok (.iload_n 1, 1) := by decide +kernel
theorem d_Mo_painBy_45 : decode b_Mo_painBy 45 = .ok (.iload_n 3, 1) := by decide +kernel
theorem d_Mo_painBy_46 : decode b_Mo_painBy 46 = .ok (.iadd, 1) := by decide +kernel
theorem d_Mo_painBy_47 : decode b_Mo_painBy 47 = .ok (.ireturn, 1) := by decide +kernel
theorem d_Mo_painBy_48 : decode b_Mo_painBy 48 = .ok (.iload_n 1, 1) := by decide +kernel
theorem d_Mo_painBy_49 : decode b_Mo_painBy 49 = .ok (.iload_n 3, 1) := by decide +kernel
theorem d_Mo_painBy_50 : decode b_Mo_painBy 50 = .ok (.isub, 1) := by decide +kernel
theorem d_Mo_painBy_51 : decode b_Mo_painBy 51 = .ok (.ireturn, 1) := by decide +kernel
theorem d_Mo_painBy_52 : decode b_Mo_painBy 52 = .ok (.aload_n 0, 1) := by decide +kernel
theorem d_Mo_painBy_53 : decode b_Mo_painBy 53 = .ok (.iload_n 1, 1) := by decide +kernel
theorem d_Mo_painBy_54 : decode b_Mo_painBy 54 = .ok (.iload_n 3, 1) := by decide +kernel
theorem d_Mo_painBy_55 : decode b_Mo_painBy 55 = .ok (.invokevirtual 38, 3) := by decide +kernel
theorem d_Mo_painBy_58 : decode b_Mo_painBy 58 = .ok (.ireturn, 1) := by decide +kernel
theorem d_Mo_painBy_59 : decode b_Mo_painBy 59 = .ok (.iload_n 1, 1) := by decide +kernel
theorem d_Mo_painBy_60 : decode b_Mo_painBy 60 = .ok (.iload_n 3, 1) := by decide +kernel
theorem d_Mo_painBy_61 : decode b_Mo_painBy 61 = .ok (.iadd, 1) := by decide +kernel
theorem d_Mo_painBy_62 : decode b_Mo_painBy 62 = .ok (.aload_n 0, 1) := by decide +kernel
theorem d_Mo_painBy_63 : decode b_Mo_painBy 63 = .ok (.getfield 22, 3) := by decide +kernel
theorem d_Mo_painBy_66 : decode b_Mo_painBy 66 = .ok (.iadd, 1) := by decide +kernel
theorem d_Mo_painBy_67 : decode b_Mo_painBy 67 = .ok (.ireturn, 1) := by decide +kernel
theorem d_Mo_painBy_68 : decode b_Mo_painBy 68 = .ok (.iload_n 2, 1) := by decide +kernel
theorem d_Mo_painBy_69 : decode b_Mo_painBy 69 = .ok (.iconst 2, 1) := by decide +kernel
theorem d_Mo_painBy_70 : decode b_Mo_painBy 70 = .ok (.irem, 1) := by decide +kernel
theorem d_Mo_painBy_71 : decode b_Mo_painBy 71 = .ok (.ifCond .ne 9, 3) := by decide +kernel
theorem d_Mo_painBy_74 : decode b_Mo_painBy 74 = .ok (.iload_n 1, 1) := by decide +kernel
theorem d_Mo_painBy_75 : decode b_Mo_painBy 75 = .ok (.iload_n 3, 1) := by decide +kernel
theorem d_Mo_painBy_76 : decode b_Mo_painBy 76 = .ok (.isub, 1) := by decide +kernel
theorem d_Mo_painBy_77 : decode b_Mo_painBy 77 = .ok (.goto 4, 3) := by decide +kernel
theorem d_Mo_painBy_80 : decode b_Mo_painBy 80 = .ok (.iconst 0, 1) := by decide +kernel
theorem d_Mo_painBy_81 : decode b_Mo_painBy 81 = .ok (.ireturn, 1) := by decide +kernel
theorem d_Mo_painBy_82 : decode b_Mo_painBy 82 = .ok (.aload_n 0, 1) := by decide +kernel
theorem d_Mo_painBy_83 : decode b_Mo_painBy 83 = .ok (.iload_n 1, 1) := by decide +kernel
theorem d_Mo_painBy_84 : decode b_Mo_painBy 84 = .ok (.iload_n 3, 1) := by decide +kernel
theorem d_Mo_painBy_85 : decode b_Mo_painBy 85 = .ok (.invokevirtual 38, 3) := by decide +kernel
theorem d_Mo_painBy_88 : decode b_Mo_painBy 88 = .ok (.aload_n 0, 1) := by decide +kernel
theorem d_Mo_painBy_89 : decode b_Mo_painBy 89 = .ok (.getfield 9, 3) := by decide +kernel
theorem d_Mo_painBy_92 : decode b_Mo_painBy 92 = .ok (.iload_n 2, 1) := by decide +kernel
theorem d_Mo_painBy_93 : decode b_Mo_painBy 93 = .ok (.iconst 4, 1) := by decide +kernel
theorem d_Mo_painBy_94 : decode b_Mo_painBy 94 = .ok (.invokestatic 42, 3) := by decide +kernel
theorem d_Mo_painBy_97 : decode b_Mo_painBy 97 = .ok (.iaload, 1) := by decide +kernel
theorem d_Mo_painBy_98 : decode b_Mo_painBy 98 = .ok (.iadd, 1) := by decide +kernel
theorem d_Mo_painBy_99 : decode b_Mo_painBy 99 = .ok (.ireturn, 1) := by decide +kernel
theorem d_Mo_painBy_100 : decode b_Mo_painBy 100 = .ok (.iload_n 1, 1) := by decide +kernel
theorem d_Mo_painBy_101 : decode b_Mo_painBy 101 = .ok (.ireturn, 1) := by decide +kernel
theorem d_Mo_saved_0 : decode b_Mo_saved 0 = .ok (.iload_n 2, 1) := by decide +kernel
theorem d_Mo_saved_1 : decode b_Mo_saved 1 = .ok (.aload_n 0, 1) := by decide +kernel
theorem d_Mo_saved_2 : decode b_Mo_saved 2 = .ok (.getfield 22, 3) := by decide +kernel
theorem d_Mo_saved_5 : decode b_Mo_saved 5 = .ok (.if_icmp .ge 9, 3) := by decide +kernel
theorem d_Mo_saved_8 : decode b_Mo_saved 8 = .ok (.iload_n 1, 1) := by decide +kernel
theorem d_Mo_saved_9 : decode b_Mo_saved 9 = .ok (.iconst 2, 1) := by decide +kernel
theorem d_Mo_saved_10 : decode b_Mo_saved 10 = .ok (.idiv, 1) := by decide +kernel
theorem d_Mo_saved_11 : decode b_Mo_saved 11 = .ok (.goto 6, 3) := by decide +kernel
theorem d_Mo_saved_14 : decode b_Mo_saved 14 = .ok (.iload_n 1, 1) := by decide +kernel
theorem d_Mo_saved_15 : decode b_Mo_saved 15 = .ok (.iconst 2, 1) := by decide +kernel
theorem d_Mo_saved_16 : decode b_Mo_saved 16 = .ok (.imul, 1) := by decide +kernel
theorem d_Mo_saved_17 : decode b_Mo_saved 17 = .ok (.ireturn, 1) := by decide +kernel
theorem d_Mg_init_0 : decode b_Mg_init 0 = .ok (.aload_n 0, 1) := by decide +kernel
theorem d_Mg_init_1 : decode b_Mg_init 1 = .ok (.invokespecial 3, 3) := by decide +kernel
theorem d_Mg_init_4 : decode b_Mg_init 4 = .ok (.aload_n 0, 1) := by decide +kernel
theorem d_Mg_init_5 : decode b_Mg_init 5 = .ok (.bipush 6, 2) := by decide +kernel
theorem d_Mg_init_7 : decode b_Mg_init 7 = .ok (.anewarray 9, 3) := by decide +kernel
theorem d_Mg_init_10 : decode b_Mg_init 10 = .ok (.putfield 11, 3) := by decide +kernel
theorem d_Mg_init_13 : decode b_Mg_init 13 = .ok (.aload_n 0, 1) := by decide +kernel
theorem d_Mg_init_14 : decode b_Mg_init 14 = .ok (.bipush 6, 2) := by decide +kernel
theorem d_Mg_init_16 : decode b_Mg_init 16 = .ok (.newarray .int, 2) := by decide +kernel
theorem d_Mg_init_18 : decode b_Mg_init 18 = .ok (.putfield 17, 3) := by decide +kernel
theorem d_Mg_init_21 : decode b_Mg_init 21 = .ok (.aload_n 0, 1) := by decide +kernel
theorem d_Mg_init_22 : decode b_Mg_init 22 = .ok (.new 21, 3) := by decide +kernel
theorem d_Mg_init_25 : decode b_Mg_init 25 = .ok (.dup, 1) := by decide +kernel
theorem d_Mg_init_26 : decode b_Mg_init 26 = .ok (.iconst 5, 1) := by decide +kernel
theorem d_Mg_init_27 : decode b_Mg_init 27 = .ok (.invokespecial 23, 3) := by decide +kernel
theorem d_Mg_init_30 : decode b_Mg_init 30 = .ok (.putfield 26, 3) := by decide +kernel
theorem d_Mg_init_33 : decode b_Mg_init 33 = .ok (.aload_n 0, 1) := by decide +kernel
theorem d_Mg_init_34 : decode b_Mg_init 34 = .ok (.new 21, 3) := by decide +kernel
theorem d_Mg_init_37 : decode b_Mg_init 37 = .ok (.dup, 1) := by decide +kernel
theorem d_Mg_init_38 : decode b_Mg_init 38 = .ok (.bipush 10, 2) := by decide +kernel
theorem d_Mg_init_40 : decode b_Mg_init 40 = .ok (.invokespecial 23, 3) := by decide +kernel
theorem d_Mg_init_43 : decode b_Mg_init 43 = .ok (.putfield 30, 3) := by decide +kernel
theorem d_Mg_init_46 : decode b_Mg_init 46 = .ok (.aload_n 0, 1) := by decide +kernel
theorem d_Mg_init_47 : decode b_Mg_init 47 = .ok (.new 21, 3) := by decide +kernel
theorem d_Mg_init_50 : decode b_Mg_init 50 = .ok (.dup, 1) := by decide +kernel
theorem d_Mg_init_51 : decode b_Mg_init 51 = .ok (.bipush 8, 2) := by decide +kernel
theorem d_Mg_init_53 : decode b_Mg_init 53 = .ok (.invokespecial 23, 3) := by decide +kernel
theorem d_Mg_init_56 : decode b_Mg_init 56 = .ok (.putfield 33, 3) := by decide +kernel
theorem d_Mg_init_59 : decode b_Mg_init 59 = .ok (.aload_n 0, 1) := by decide +kernel
theorem d_Mg_init_60 : decode b_Mg_init 60 = .ok (.aload_n 1, 1) := by decide +kernel
theorem d_Mg_init_61 : decode b_Mg_init 61 = .ok (.putfield 36, 3) := by decide +kernel
theorem d_Mg_init_64 : decode b_Mg_init 64 = .ok (.iconst 0, 1) := by decide +kernel
theorem d_Mg_init_65 : decode b_Mg_init 65 = .ok (.istore_n 2, 1) := by decide +kernel
theorem d_Mg_init_66 : decode b_Mg_init 66 = .ok (.iload_n 2, 1) := by decide +kernel
theorem d_Mg_init_67 : decode b_Mg_init 67 = .ok (.bipush 6, 2) := by decide +kernel
theorem d_Mg_init_69 : decode b_Mg_init 69 = .ok (.if_icmp .ge 23, 3) := by decide +kernel
theorem d_Mg_init_72 : decode b_Mg_init 72 = .ok (.aload_n 0, 1) := by decide +kernel
theorem d_Mg_init_73 : decode b_Mg_init 73 = .ok (.getfield 11, 3) := by decide +kernel
theorem d_Mg_init_76 : decode b_Mg_init 76 = .ok (.iload_n 2, 1) := by decide +kernel
theorem d_Mg_init_77 : decode b_Mg_init 77 = .ok (.new 9, 3) := by decide +kernel
theorem d_Mg_init_80 : decode b_Mg_init 80 = .ok (.dup, 1) := by decide +kernel
theorem d_Mg_init_81 : decode b_Mg_init 81 = .ok (.iload_n 2, 1) := by decide +kernel
theorem d_Mg_init_82 : decode b_Mg_init 82 = .ok (.invokespecial 40, 3) := by decide +kernel
theorem d_Mg_init_85 : decode b_Mg_init 85 = .ok (.aastore, 1) := by decide +kernel
theorem d_Mg_init_86 : decode b_Mg_init 86 = .ok (.iinc 2 1, 3) := by decide +kernel
theorem d_Mg_init_89 : decode b_Mg_init 89 = .ok (.goto (-23), 3) := by decide +kernel
theorem d_Mg_init_92 : decode b_Mg_init 92 = .ok (.return_, 1) := by decide +kernel
theorem d_Mg_becomes_0 : decode b_Mg_becomes 0 = .ok (.aload_n 0, 1) := by decide +kernel
theorem d_Mg_becomes_1 : decode b_Mg_becomes 1 = .ok (.aload_n 1, 1) := by decide +kernel
theorem d_Mg_becomes_2 : decode b_Mg_becomes 2 = .ok (.getfield 41, 3) := by decide +kernel
theorem d_Mg_becomes_5 : decode b_Mg_becomes 5 = .ok (.putfield 41, 3) := by decide +kernel
theorem d_Mg_becomes_8 : decode b_Mg_becomes 8 = .ok (.iconst 0, 1) := by decide +kernel
theorem d_Mg_becomes_9 : decode b_Mg_becomes 9 = .ok (.istore_n 2, 1) := by decide +kernel
theorem d_Mg_becomes_10 : decode b_Mg_becomes 10 = .ok (.iload_n 2, 1) := by decide +kernel
theorem d_Mg_becomes_11 : decode b_Mg_becomes 11 = .ok (.aload_n 0, 1) := by decide +kernel
theorem d_Mg_becomes_12 : decode b_Mg_becomes 12 = .ok (.getfield 41, 3) := by decide +kernel
theorem d_Mg_becomes_15 : decode b_Mg_becomes 15 = .ok (.if_icmp .ge 24, 3) := by decide +kernel
theorem d_Mg_becomes_18 : decode b_Mg_becomes 18 = .ok (.aload_n 0, 1) := by decide +kernel
theorem d_Mg_becomes_19 : decode b_Mg_becomes 19 = .ok (.getfield 11, 3) := by decide +kernel
theorem d_Mg_becomes_22 : decode b_Mg_becomes 22 = .ok (.iload_n 2, 1) := by decide +kernel
theorem d_Mg_becomes_23 : decode b_Mg_becomes 23 = .ok (.aaload, 1) := by decide +kernel
theorem d_Mg_becomes_24 : decode b_Mg_becomes 24 = .ok (.aload_n 1, 1) := by decide +kernel
theorem d_Mg_becomes_25 : decode b_Mg_becomes 25 = .ok (.getfield 11, 3) := by decide +kernel
theorem d_Mg_becomes_28 : decode b_Mg_becomes 28 = .ok (.iload_n 2, 1) := by decide +kernel
theorem d_Mg_becomes_29 : decode b_Mg_becomes 29 = .ok (.aaload, 1) := by decide +kernel
theorem d_Mg_becomes_30 : decode b_Mg_becomes 30 = .ok (.invokevirtual 45, 3) := by decide +kernel
theorem d_Mg_becomes_33 : decode b_Mg_becomes 33 = .ok (.iinc 2 1, 3) := by decide +kernel
theorem d_Mg_becomes_36 : decode b_Mg_becomes 36 = .ok (.goto (-26), 3) := by decide +kernel
theorem d_Mg_becomes_39 : decode b_Mg_becomes 39 = .ok (.aload_n 0, 1) := by decide +kernel
theorem d_Mg_becomes_40 : decode b_Mg_becomes 40 = .ok (.aload_n 1, 1) := by decide +kernel
theorem d_Mg_becomes_41 : decode b_Mg_becomes 41 = .ok (.getfield 49, 3) := by decide +kernel
theorem d_Mg_becomes_44 : decode b_Mg_becomes 44 = .ok (.putfield 49, 3) := by decide +kernel
theorem d_Mg_becomes_47 : decode b_Mg_becomes 47 = .ok (.iconst 0, 1) := by decide +kernel
theorem d_Mg_becomes_48 : decode b_Mg_becomes 48 = .ok (.istore_n 2, 1) := by decide +kernel
theorem d_Mg_becomes_49 : decode b_Mg_becomes 49 = .ok (.iload_n 2, 1) := by decide +kernel
theorem d_Mg_becomes_50 : decode b_Mg_becomes 50 = .ok (.aload_n 0, 1) := by decide +kernel
theorem d_Mg_becomes_51 : decode b_Mg_becomes 51 = .ok (.getfield 49, 3) := by decide +kernel
theorem d_Mg_becomes_54 : decode b_Mg_becomes 54 = .ok (.if_icmp .ge 21, 3) := by decide +kernel
theorem d_Mg_becomes_57 : decode b_Mg_becomes 57 = .ok (.aload_n 0, 1) := by decide +kernel
theorem d_Mg_becomes_58 : decode b_Mg_becomes 58 = .ok (.getfield 17, 3) := by decide +kernel
theorem d_Mg_becomes_61 : decode b_Mg_becomes 61 = .ok (.iload_n 2, 1) := by decide +kernel
theorem d_Mg_becomes_62 : decode b_Mg_becomes 62 = .ok (.aload_n 1, 1) := by decide +kernel
theorem d_Mg_becomes_63 : decode b_Mg_becomes 63 = .ok (.getfield 17, 3) := by decide +kernel
theorem d_Mg_becomes_66 : decode b_Mg_becomes 66 = .ok (.iload_n 2, 1) := by decide +kernel
theorem d_Mg_becomes_67 : decode b_Mg_becomes 67 = .ok (.iaload, 1) := by decide +kernel
theorem d_Mg_becomes_68 : decode b_Mg_becomes 68 = .ok (.iastore, 1) := by decide +kernel
theorem d_Mg_becomes_69 : decode b_Mg_becomes 69 = .ok (.iinc 2 1, 3) := by decide +kernel
theorem d_Mg_becomes_72 : decode b_Mg_becomes 72 = .ok (.goto (-23), 3) := by decide +kernel
theorem d_Mg_becomes_75 : decode b_Mg_becomes 75 = .ok (.aload_n 0, 1) := by decide +kernel
theorem d_Mg_becomes_76 : decode b_Mg_becomes 76 = .ok (.aload_n 1, 1) := by decide +kernel
theorem d_Mg_becomes_77 : decode b_Mg_becomes 77 = .ok (.getfield 52, 3) := by decide +kernel
theorem d_Mg_becomes_80 : decode b_Mg_becomes 80 = .ok (.putfield 52, 3) := by decide +kernel
theorem d_Mg_becomes_83 : decode b_Mg_becomes 83 = .ok (.aload_n 0, 1) := by decide +kernel
theorem d_Mg_becomes_84 : decode b_Mg_becomes 84 = .ok (.aload_n 1, 1) := by decide +kernel
theorem d_Mg_becomes_85 : decode b_Mg_becomes 85 = .ok (.getfield 36, 3) := by decide +kernel
theorem d_Mg_becomes_88 : decode b_Mg_becomes 88 = .ok (.putfield 36, 3) := by decide +kernel
theorem d_Mg_becomes_91 : decode b_Mg_becomes 91 = .ok (.aload_n 0, 1) := by decide +kernel
theorem d_Mg_becomes_92 : decode b_Mg_becomes 92 = .ok (.getfield 26, 3) := by decide +kernel
theorem d_Mg_becomes_95 : decode b_Mg_becomes 95 = .ok (.aload_n 1, 1) := by decide +kernel
theorem d_Mg_becomes_96 : decode b_Mg_becomes 96 = .ok (.getfield 26, 3) := by decide +kernel
theorem d_Mg_becomes_99 : decode b_Mg_becomes 99 = .ok (.invokevirtual 55, 3) := by decide +kernel
theorem d_Mg_becomes_102 : decode b_Mg_becomes 102 = .ok (.aload_n 0, 1) := by decide +kernel
theorem d_Mg_becomes_103 : decode b_Mg_becomes 103 = .ok (.getfield 30, 3) := by decide +kernel
theorem d_Mg_becomes_106 : decode b_Mg_becomes 106 = .ok (.aload_n 1, 1) := by decide +kernel
theorem d_Mg_becomes_107 : decode b_Mg_becomes 107 = .ok (.getfield 30, 3) := by decide +kernel
theorem d_Mg_becomes_110 : decode b_Mg_becomes 110 = .ok (.invokevirtual 55, 3) := by decide +kernel
theorem d_Mg_becomes_113 : decode b_Mg_becomes 113 = .ok (.aload_n 0, 1) := by decide +kernel
theorem d_Mg_becomes_114 : decode b_Mg_becomes 114 = .ok (.getfield 33, 3) := by decide +kernel
theorem d_Mg_becomes_117 : decode b_Mg_becomes 117 = .ok (.aload_n 1, 1) := by decide +kernel
theorem d_Mg_becomes_118 : decode b_Mg_becomes 118 = .ok (.getfield 33, 3) := by decide +kernel
theorem d_Mg_becomes_121 : decode b_Mg_becomes 121 = .ok (.invokevirtual 55, 3) := by decide +kernel
theorem d_Mg_becomes_124 : decode b_Mg_becomes 124 = .ok (.return_, 1) := by decide +kernel
theorem d_Mg_placeOf_0 : decode b_Mg_placeOf 0 = .ok (.iconst 0, 1) := by decide +kernel
theorem d_Mg_placeOf_1 : decode b_Mg_placeOf 1 = .ok (.istore_n 2, 1) := by decide +kernel
theorem d_Mg_placeOf_2 : decode b_Mg_placeOf 2 = .ok (.iload_n 2, 1) := by decide +kernel
theorem d_Mg_placeOf_3 : decode b_Mg_placeOf 3 = .ok (.aload_n 0, 1) := by decide +kernel
theorem d_Mg_placeOf_4 : decode b_Mg_placeOf 4 = .ok (.getfield 49, 3) := by decide +kernel
theorem d_Mg_placeOf_7 : decode b_Mg_placeOf 7 = .ok (.if_icmp .ge 21, 3) := by decide +kernel
theorem d_Mg_placeOf_10 : decode b_Mg_placeOf 10 = .ok (.aload_n 0, 1) := by decide +kernel
theorem d_Mg_placeOf_11 : decode b_Mg_placeOf 11 = .ok (.getfield 17, 3) := by decide +kernel
theorem d_Mg_placeOf_14 : decode b_Mg_placeOf 14 = .ok (.iload_n 2, 1) := by decide +kernel
theorem d_Mg_placeOf_15 : decode b_Mg_placeOf 15 = .ok (.iaload, 1) := by decide +kernel
theorem d_Mg_placeOf_16 : decode b_Mg_placeOf 16 = .ok (.iload_n 1, 1) := by decide +kernel
theorem d_Mg_placeOf_17 : decode b_Mg_placeOf 17 = .ok (.if_icmp .ne 5, 3) := by decide +kernel
theorem d_Mg_placeOf_20 : decode b_Mg_placeOf 20 = .ok (.iload_n 2, 1) := by decide +kernel
theorem d_Mg_placeOf_21 : decode b_Mg_placeOf 21 = .ok (.ireturn, 1) := by decide +kernel
theorem d_Mg_placeOf_22 : decode b_Mg_placeOf 22 = .ok (.iinc 2 1, 3) := by decide +kernel
theorem d_Mg_placeOf_25 : decode b_Mg_placeOf 25 = .ok (.goto (-23), 3) := by decide +kernel
theorem d_Mg_placeOf_28 : decode b_Mg_placeOf 28 = .ok (.bipush (-5), 2) := by decide +kernel
theorem d_Mg_placeOf_30 : decode b_Mg_placeOf 30 = .ok (.ireturn, 1) := by decide +kernel
theorem d_Mg_isLost_0 : decode b_Mg_isLost 0 = .ok (.aload_n 0, 1) := by decide +kernel
theorem d_Mg_isLost_1 : decode b_Mg_isLost 1 = .ok (.getfield 36, 3) := by decide +kernel
theorem d_Mg_isLost_4 : decode b_Mg_isLost 4 = .ok (.getfield 58, 3) := by decide +kernel
theorem d_Mg_isLost_7 : decode b_Mg_isLost 7 = .ok (.iconst 1, 1) := by decide +kernel
theorem d_Mg_isLost_8 : decode b_Mg_isLost 8 = .ok (.if_icmp .le 21, 3) := by decide +kernel
theorem d_Mg_isLost_11 : decode b_Mg_isLost 11 = .ok (.iload_n 1, 1) := by decide +kernel
theorem d_Mg_isLost_12 : decode b_Mg_isLost 12 = .ok (.iconst 1, 1) := by decide +kernel
theorem d_Mg_isLost_13 : decode b_Mg_isLost 13 = .ok (.iadd, 1) := by decide +kernel
theorem d_Mg_isLost_14 : decode b_Mg_isLost 14 = .ok (.aload_n 0, 1) := by decide +kernel
theorem d_Mg_isLost_15 : decode b_Mg_isLost 15 = .ok (.getfield 36, 3) := by decide +kernel
theorem d_Mg_isLost_18 : decode b_Mg_isLost 18 = .ok (.getfield 58, 3) := by decide +kernel
theorem d_Mg_isLost_21 : decode b_Mg_isLost 21 = .ok (.irem, 1) := by decide +kernel
theorem d_Mg_isLost_22 : decode b_Mg_isLost 22 = .ok (.ifCond .ne 7, 3) := by decide +kernel
theorem d_Mg_isLost_25 : decode b_Mg_isLost 25 = .ok (.iconst 1, 1) := by decide +kernel
theorem d_Mg_isLost_26 : decode b_Mg_isLost 26 = .ok (.goto 4, 3) := by decide +kernel
theorem d_Mg_isLost_29 : decode b_Mg_isLost 29 = .ok (.iconst 0, 1) := by decide +kernel
theorem d_Mg_isLost_30 : decode b_Mg_isLost 30 = .ok (.ireturn, 1) := by decide +kernel
theorem d_Mg_isLeft_0 : decode b_Mg_isLeft 0 = .ok (.iload_n 1, 1) := by decide +kernel
theorem d_Mg_isLeft_1 : decode b_Mg_isLeft 1 = .ok (.ifCond .lt 27, 3) := by decide +kernel
theorem d_Mg_isLeft_4 : decode b_Mg_isLeft 4 = .ok (.iload_n 1, 1) := by decide +kernel
theorem d_Mg_isLeft_5 : decode b_Mg_isLeft 5 = .ok (.aload_n 0, 1) := by decide +kernel
theorem d_Mg_isLeft_6 : decode b_Mg_isLeft 6 = .ok (.getfield 41, 3) := by decide +kernel
theorem d_Mg_isLeft_9 : decode b_Mg_isLeft 9 = .ok (.if_icmp .ge 19, 3) := by decide +kernel
theorem d_Mg_isLeft_12 : decode b_Mg_isLeft 12 = .ok (.aload_n 0, 1) := by decide +kernel
theorem d_Mg_isLeft_13 : decode b_Mg_isLeft 13 = .ok (.getfield 11, 3) := by decide +kernel
theorem d_Mg_isLeft_16 : decode b_Mg_isLeft 16 = .ok (.iload_n 1, 1) := by decide +kernel
theorem d_Mg_isLeft_17 : decode b_Mg_isLeft 17 = .ok (.aaload, 1) := by decide +kernel
theorem d_Mg_isLeft_18 : decode b_Mg_isLeft 18 = .ok (.getfield 63, 3) := by decide +kernel
theorem d_Mg_isLeft_21 : decode b_Mg_isLeft 21 = .ok (.ifCond .ne 7, 3) := by decide +kernel
theorem d_Mg_isLeft_24 : decode b_Mg_isLeft 24 = .ok (.iconst 1, 1) := by decide +kernel
theorem d_Mg_isLeft_25 : decode b_Mg_isLeft 25 = .ok (.goto 4, 3) := by decide +kernel
theorem d_Mg_isLeft_28 : decode b_Mg_isLeft 28 = .ok (.iconst 0, 1) := by decide +kernel
theorem d_Mg_isLeft_29 : decode b_Mg_isLeft 29 = .ok (.ireturn, 1) := by decide +kernel
theorem d_Mg_hasDay_0 : decode b_Mg_hasDay 0 = .ok (.iconst 0, 1) := by decide +kernel
theorem d_Mg_hasDay_1 : decode b_Mg_hasDay 1 = .ok (.istore_n 1, 1) := by decide +kernel
theorem d_Mg_hasDay_2 : decode b_Mg_hasDay 2 = .ok (.iload_n 1, 1) := by decide +kernel
theorem d_Mg_hasDay_3 : decode b_Mg_hasDay 3 = .ok (.aload_n 0, 1) := by decide +kernel
theorem d_Mg_hasDay_4 : decode b_Mg_hasDay 4 = .ok (.getfield 49, 3) := by decide +kernel
theorem d_Mg_hasDay_7 : decode b_Mg_hasDay 7 = .ok (.if_icmp .ge 40, 3) := by decide +kernel
theorem d_Mg_hasDay_10 : decode b_Mg_hasDay 10 = .ok (.aload_n 0, 1) := by decide +kernel
theorem d_Mg_hasDay_11 : decode b_Mg_hasDay 11 = .ok (.aload_n 0, 1) := by decide +kernel
theorem d_Mg_hasDay_12 : decode b_Mg_hasDay 12 = .ok (.getfield 52, 3) := by decide +kernel
theorem d_Mg_hasDay_15 : decode b_Mg_hasDay 15 = .ok (.invokevirtual 67, 3) := by decide +kernel
theorem d_Mg_hasDay_18 : decode b_Mg_hasDay 18 = .ok (.ifCond .ne 29, 3) := by decide +kernel
theorem d_Mg_hasDay_21 : decode b_Mg_hasDay 21 = .ok (.aload_n 0, 1) := by decide +kernel
theorem d_Mg_hasDay_22 : decode b_Mg_hasDay 22 = .ok (.aload_n 0, 1) := by decide +kernel
theorem d_Mg_hasDay_23 : decode b_Mg_hasDay 23 = .ok (.getfield 17, 3) := by decide +kernel
theorem d_Mg_hasDay_26 : decode b_Mg_hasDay 26 = .ok (.iload_n 1, 1) := by decide +kernel
theorem d_Mg_hasDay_27 : decode b_Mg_hasDay 27 = .ok (.iaload, 1) := by decide +kernel
theorem d_Mg_hasDay_28 : decode b_Mg_hasDay 28 = .ok (.invokevirtual 71, 3) := by decide +kernel
theorem d_Mg_hasDay_31 : decode b_Mg_hasDay 31 = .ok (.ifCond .eq 10, 3) := by decide +kernel
theorem d_Mg_hasDay_34 : decode b_Mg_hasDay 34 = .ok (.aload_n 0, 1) := by decide +kernel
theorem d_Mg_hasDay_35 : decode b_Mg_hasDay 35 = .ok (.getfield 17, 3) := by decide +kernel
theorem d_Mg_hasDay_38 : decode b_Mg_hasDay 38 = .ok (.iload_n 1, 1) := by decide +kernel
theorem d_Mg_hasDay_39 : decode b_Mg_hasDay 39 = .ok (.iaload, 1) := by decide +kernel
theorem d_Mg_hasDay_40 : decode b_Mg_hasDay 40 = .ok (.ireturn, 1) := by decide +kernel
theorem d_Mg_hasDay_41 : decode b_Mg_hasDay 41 = .ok (.iinc 1 1, 3) := by decide +kernel
theorem d_Mg_hasDay_44 : decode b_Mg_hasDay 44 = .ok (.goto (-42), 3) := by decide +kernel
theorem d_Mg_hasDay_47 : decode b_Mg_hasDay 47 = .ok (.bipush (-5), 2) := by decide +kernel
theorem d_Mg_hasDay_49 : decode b_Mg_hasDay 49 = .ok (.ireturn, 1) := by decide +kernel
theorem d_Mg_hurtOfAll_0 : decode b_Mg_hurtOfAll 0 = .ok (.iconst 0, 1) := by decide +kernel
theorem d_Mg_hurtOfAll_1 : decode b_Mg_hurtOfAll 1 = .ok (.istore_n 1, 1) := by decide +kernel
theorem d_Mg_hurtOfAll_2 : decode b_Mg_hurtOfAll 2 = .ok (.iconst 0, 1) := by decide +kernel
theorem d_Mg_hurtOfAll_3 : decode b_Mg_hurtOfAll 3 = .ok (.istore_n 2, 1) := by decide +kernel
theorem d_Mg_hurtOfAll_4 : decode b_Mg_hurtOfAll 4 = .ok (.iload_n 2, 1) := by decide +kernel
theorem d_Mg_hurtOfAll_5 : decode b_Mg_hurtOfAll 5 = .ok (.aload_n 0, 1) := by decide +kernel
theorem d_Mg_hurtOfAll_6 : decode b_Mg_hurtOfAll 6 = .ok (.getfield 41, 3) := by decide +kernel
theorem d_Mg_hurtOfAll_9 : decode b_Mg_hurtOfAll 9 = .ok (.if_icmp .ge 21, 3) := by decide +kernel
theorem d_Mg_hurtOfAll_12 : decode b_Mg_hurtOfAll 12 = .ok (.iload_n 1, 1) := by decide +kernel
theorem d_Mg_hurtOfAll_13 : decode b_Mg_hurtOfAll 13 = .ok (.aload_n 0, 1) := by decide +kernel
theorem d_Mg_hurtOfAll_14 : decode b_Mg_hurtOfAll 14 = .ok (.getfield 11, 3) := by decide +kernel
theorem d_Mg_hurtOfAll_17 : decode b_Mg_hurtOfAll 17 = .ok (.iload_n 2, 1) := by decide +kernel
theorem d_Mg_hurtOfAll_18 : decode b_Mg_hurtOfAll 18 = .ok (.aaload, 1) := by decide +kernel
theorem d_Mg_hurtOfAll_19 : decode b_Mg_hurtOfAll 19 = .ok (.getfield 74, 3) := by decide +kernel
theorem d_Mg_hurtOfAll_22 : decode b_Mg_hurtOfAll 22 = .ok (.iadd, 1) := by decide +kernel
theorem d_Mg_hurtOfAll_23 : decode b_Mg_hurtOfAll 23 = .ok (.istore_n 1, 1) := by decide +kernel
theorem d_Mg_hurtOfAll_24 : decode b_Mg_hurtOfAll 24 = .ok (.iinc 2 1, 3) := by decide +kernel
theorem d_Mg_hurtOfAll_27 : decode b_Mg_hurtOfAll 27 = .ok (.goto (-23), 3) := by decide +kernel
theorem d_Mg_hurtOfAll_30 : decode b_Mg_hurtOfAll 30 = .ok (.iload_n 1, 1) := by decide +kernel
theorem d_Mg_hurtOfAll_31 : decode b_Mg_hurtOfAll 31 = .ok (.ireturn, 1) := by decide +kernel
theorem d_Mg_howManyDone_0 : decode b_Mg_howManyDone 0 = .ok (.iconst 0, 1) := by decide +kernel
theorem d_Mg_howManyDone_1 : decode b_Mg_howManyDone 1 = .ok (.istore_n 1, 1) := by decide +kernel
theorem d_Mg_howManyDone_2 : decode b_Mg_howManyDone 2 = .ok (.iconst 0, 1) := by decide +kernel
theorem d_Mg_howManyDone_3 : decode b_Mg_howManyDone 3 = .ok (.istore_n 2, 1) := by decide +kernel
theorem d_Mg_howManyDone_4 : decode b_Mg_howManyDone 4 = .ok (.iload_n 2, 1) := by decide +kernel
theorem d_Mg_howManyDone_5 : decode b_Mg_howManyDone 5 = .ok (.aload_n 0, 1) := by decide +kernel
theorem d_Mg_howManyDone_6 : decode b_Mg_howManyDone 6 = .ok (.getfield 41, 3) := by decide +kernel
theorem d_Mg_howManyDone_9 : decode b_Mg_howManyDone 9 = .ok (.if_icmp .ge 24, 3) := by decide +kernel
theorem d_Mg_howManyDone_12 : decode b_Mg_howManyDone 12 = .ok (.iload_n 1, 1) := by decide +kernel
theorem d_Mg_howManyDone_13 : decode b_Mg_howManyDone 13 = .ok (.aload_n 0, 1) := by decide +kernel
theorem d_Mg_howManyDone_14 : decode b_Mg_howManyDone 14 = .ok (.getfield 11, 3) := by decide +kernel
theorem d_Mg_howManyDone_17 : decode b_Mg_howManyDone 17 = .ok (.iload_n 2, 1) := by decide +kernel
theorem d_Mg_howManyDone_18 : decode b_Mg_howManyDone 18 = .ok (.aaload, 1) := by decide +kernel
theorem d_Mg_howManyDone_19 : decode b_Mg_howManyDone 19 = .ok (.getfield 63, 3) := by decide +kernel
theorem d_Mg_howManyDone_22 : decode b_Mg_howManyDone 22 = .ok (.invokestatic 77, 3) := by decide +kernel
theorem d_Mg_howManyDone_25 : decode b_Mg_howManyDone 25 = .ok (.iadd, 1) := by decide +kernel
theorem d_Mg_howManyDone_26 : decode b_Mg_howManyDone 26 = .ok (.istore_n 1, 1) := by decide +kernel
theorem d_Mg_howManyDone_27 : decode b_Mg_howManyDone 27 = .ok (.iinc 2 1, 3) := by decide +kernel
theorem d_Mg_howManyDone_30 : decode b_Mg_howManyDone 30 = .ok (.goto (-26), 3) := by decide +kernel
theorem d_Mg_howManyDone_33 : decode b_Mg_howManyDone 33 = .ok (.iload_n 1, 1) := by decide +kernel
theorem d_Mg_howManyDone_34 : decode b_Mg_howManyDone 34 = .ok (.ireturn, 1) := by decide +kernel
theorem d_Mg_painOf_0 : decode b_Mg_painOf 0 = .ok (.bipush 99, 2) := by decide +kernel
theorem d_Mg_painOf_2 : decode b_Mg_painOf 2 = .ok (.aload_n 1, 1) := by decide +kernel
theorem d_Mg_painOf_3 : decode b_Mg_painOf 3 = .ok (.getfield 81, 3) := by decide +kernel
theorem d_Mg_painOf_6 : decode b_Mg_painOf 6 = .ok (.iload_n 2, 1) := by decide +kernel
theorem d_Mg_painOf_7 : decode b_Mg_painOf 7 = .ok (.iadd, 1) := by decide +kernel
theorem d_Mg_painOf_8 : decode b_Mg_painOf 8 = .ok (.invokestatic 84, 3) := by decide +kernel
theorem d_Mg_painOf_11 : decode b_Mg_painOf 11 = .ok (.istore_n 3, 1) := by decide +kernel
theorem d_Mg_painOf_12 : decode b_Mg_painOf 12 = .ok (.iconst 0, 1) := by decide +kernel
theorem d_Mg_painOf_13 : decode b_Mg_painOf 13 = .ok (.aload_n 1, 1) := by decide +kernel
theorem d_Mg_painOf_14 : decode b_Mg_painOf 14 = .ok (.aload_n 0, 1) := by decide +kernel
theorem d_Mg_painOf_15 : decode b_Mg_painOf 15 = .ok (.getfield 36, 3) := by decide +kernel
theorem d_Mg_painOf_18 : decode b_Mg_painOf 18 = .ok (.aload_n 1, 1) := by decide +kernel
theorem d_Mg_painOf_19 : decode b_Mg_painOf 19 = .ok (.aload_n 0, 1) := by decide +kernel
theorem d_Mg_painOf_20 : decode b_Mg_painOf 20 = .ok (.getfield 52, 3) := by decide +kernel
theorem d_Mg_painOf_23 : decode b_Mg_painOf 23 = .ok (.iload_n 2, 1) := by decide +kernel
theorem d_Mg_painOf_24 : decode b_Mg_painOf 24 = .ok (.iadd, 1) := by decide +kernel
theorem d_Mg_painOf_25 : decode b_Mg_painOf 25 = .ok (.iload_n 3, 1) := by decide +kernel
theorem d_Mg_painOf_26 : decode b_Mg_painOf 26 = .ok (.invokevirtual 90, 3) := by decide +kernel
theorem d_Mg_painOf_29 : decode b_Mg_painOf 29 = .ok (.aload_n 0, 1) := by decide +kernel
theorem d_Mg_painOf_30 : decode b_Mg_painOf 30 = .ok (.getfield 52, 3) := by decide +kernel
theorem d_Mg_painOf_33 : decode b_Mg_painOf 33 = .ok (.iload_n 2, 1) := by decide +kernel
theorem d_Mg_painOf_34 : decode b_Mg_painOf 34 = .ok (.iadd, 1) := by decide +kernel
theorem d_Mg_painOf_35 : decode b_Mg_painOf 35 = .ok (.iload_n 3, 1) := by decide +kernel
theorem d_Mg_painOf_36 : decode b_Mg_painOf 36 = .ok (.invokevirtual 94, 3) := by decide +kernel
theorem d_Mg_painOf_39 : decode b_Mg_painOf 39 = .ok (.invokestatic 98, 3) := by decide +kernel
theorem d_Mg_painOf_42 : decode b_Mg_painOf 42 = .ok (.ireturn, 1) := by decide +kernel
theorem d_Mg_go_0 : decode b_Mg_go 0 = .ok (.iconst 0, 1) := by decide +kernel
theorem d_Mg_go_1 : decode b_Mg_go 1 = .ok (.istore_n 3, 1) := by decide +kernel
theorem d_Mg_go_2 : decode b_Mg_go 2 = .ok (.iload_n 3, 1) := by decide +kernel
theorem d_Mg_go_3 : decode b_Mg_go 3 = .ok (.iload_n 1, 1) := by decide +kernel
theorem d_Mg_go_4 : decode b_Mg_go 4 = .ok (.if_icmp .ge 115, 3) := by decide +kernel
theorem d_Mg_go_7 : decode b_Mg_go 7 = .ok (.aload_n 0, 1) := by decide +kernel
theorem d_Mg_go_8 : decode b_Mg_go 8 = .ok (.invokevirtual 101, 3) := by decide +kernel
theorem d_Mg_go_11 : decode b_Mg_go 11 = .ok (.istore 4, 2) := by decide +kernel
theorem d_Mg_go_13 : decode b_Mg_go 13 = .ok (.iconst 0, 1) := by decide +kernel
theorem d_Mg_go_14 : decode b_Mg_go 14 = .ok (.istore 5, 2) := by decide +kernel
theorem d_Mg_go_16 : decode b_Mg_go 16 = .ok (.iload 5, 2) := by decide +kernel
theorem d_Mg_go_18 : decode b_Mg_go 18 = .ok (.aload_n 0, 1) := by decide +kernel
theorem d_Mg_go_19 : decode b_Mg_go 19 = .ok (.getfield 41, 3) := by decide +kernel
theorem d_Mg_go_22 : decode b_Mg_go 22 = .ok (.if_icmp .ge 81, 3) := by decide +kernel
theorem d_Mg_go_25 : decode b_Mg_go 25 = .ok (.aload_n 0, 1) := by decide +kernel
theorem d_Mg_go_26 : decode b_Mg_go 26 = .ok (.getfield 11, 3) := by decide +kernel
theorem d_Mg_go_29 : decode b_Mg_go 29 = .ok (.iload 5, 2) := by decide +kernel
theorem d_Mg_go_31 : decode b_Mg_go 31 = .ok (.aaload, 1) := by decide +kernel
theorem d_Mg_go_32 : decode b_Mg_go 32 = .ok (.astore 6, 2) := by decide +kernel
theorem d_Mg_go_34 : decode b_Mg_go 34 = .ok (.iload 5, 2) := by decide +kernel
theorem d_Mg_go_36 : decode b_Mg_go 36 = .ok (.iload 4, 2) := by decide +kernel
theorem d_Mg_go_38 : decode b_Mg_go 38 = .ok (.if_icmp .ne 12, 3) := by decide +kernel
theorem d_Mg_go_41 : decode b_Mg_go 41 = .ok (.aload 6, 2) := by decide +kernel
theorem d_Mg_go_43 : decode b_Mg_go 43 = .ok (.iconst 1, 1) := by decide +kernel
theorem d_Mg_go_44 : decode b_Mg_go 44 = .ok (.putfield 63, 3) := by decide +kernel
theorem d_Mg_go_47 : decode b_Mg_go 47 = .ok (.goto 50, 3) := by decide +kernel
theorem d_Mg_go_50 : decode b_Mg_go 50 = .ok (.aload 6, 2) := by decide +kernel
theorem d_Mg_go_52 : decode b_Mg_go 52 = .ok (.getfield 63, 3) := by decide +kernel
theorem d_Mg_go_55 : decode b_Mg_go 55 = .ok (.ifCond .ne 42, 3) := by decide +kernel
theorem d_Mg_go_58 : decode b_Mg_go 58 = .ok (.aload 6, 2) := by decide +kernel
theorem d_Mg_go_60 : decode b_Mg_go 60 = .ok (.iload_n 2, 1) := by decide +kernel
theorem d_Mg_go_61 : decode b_Mg_go 61 = .ok (.aload 6, 2) := by decide +kernel
theorem d_Mg_go_63 : decode b_Mg_go 63 = .ok (.getfield 74, 3) := by decide +kernel
theorem d_Mg_go_66 : decode b_Mg_go 66 = .ok (.aload_n 0, 1) := by decide +kernel
theorem d_Mg_go_67 : decode b_Mg_go 67 = .ok (.aload 6, 2) := by decide +kernel
theorem d_Mg_go_69 : decode b_Mg_go 69 = .ok (.iconst 0, 1) := by decide +kernel
theorem d_Mg_go_70 : decode b_Mg_go 70 = .ok (.invokevirtual 105, 3) := by decide +kernel
theorem d_Mg_go_73 : decode b_Mg_go 73 = .ok (.iadd, 1) := by decide +kernel
theorem d_Mg_go_74 : decode b_Mg_go 74 = .ok (.invokestatic 84, 3) := by decide +kernel
theorem d_Mg_go_77 : decode b_Mg_go 77 = .ok (.putfield 74, 3) := by decide +kernel
theorem d_Mg_go_80 : decode b_Mg_go 80 = .ok (.aload 6, 2) := by decide +kernel
theorem d_Mg_go_82 : decode b_Mg_go 82 = .ok (.bipush 99, 2) := by decide +kernel
theorem d_Mg_go_84 : decode b_Mg_go 84 = .ok (.aload 6, 2) := by decide +kernel
theorem d_Mg_go_86 : decode b_Mg_go 86 = .ok (.getfield 81, 3) := by decide +kernel
theorem d_Mg_go_89 : decode b_Mg_go 89 = .ok (.iconst 1, 1) := by decide +kernel
theorem d_Mg_go_90 : decode b_Mg_go 90 = .ok (.iadd, 1) := by decide +kernel
theorem d_Mg_go_91 : decode b_Mg_go 91 = .ok (.invokestatic 84, 3) := by decide +kernel
theorem d_Mg_go_94 : decode b_Mg_go 94 = .ok (.putfield 81, 3) := by decide +kernel
theorem d_Mg_go_97 : decode b_Mg_go 97 = .ok (.iinc 5 1, 3) := by decide +kernel
theorem d_Mg_go_100 : decode b_Mg_go 100 = .ok (.goto (-84), 3) := by decide +kernel
theorem d_Mg_go_103 : decode b_Mg_go 103 = .ok (.aload_n 0, 1) := by decide +kernel
theorem d_Mg_go_104 : decode b_Mg_go 104 = .ok (.dup, 1) := by decide +kernel
theorem d_Mg_go_105 : decode b_Mg_go 105 = .ok (.getfield 52, 3) := by decide +kernel
theorem d_Mg_go_108 : decode b_Mg_go 108 = .ok (.iconst 1, 1) := by decide +kernel
theorem d_Mg_go_109 : decode b_Mg_go 109 = .ok (.iadd, 1) := by decide +kernel
theorem d_Mg_go_110 : decode b_Mg_go 110 = .ok (.putfield 52, 3) := by decide +kernel
theorem d_Mg_go_113 : decode b_Mg_go 113 = .ok (.iinc 3 1, 3) := by decide +kernel
theorem d_Mg_go_116 : decode b_Mg_go 116 = .ok (.goto (-114), 3) := by decide +kernel
theorem d_Mg_go_119 : decode b_Mg_go 119 = .ok (.return_, 1) := by decide +kernel
theorem d_Mg_goByPlan_0 : decode b_Mg_goByPlan 0 = .ok (.iconst 0, 1) := by decide +kernel
theorem d_Mg_goByPlan_1 : decode b_Mg_goByPlan 1 = .ok (.istore_n 1, 1) := by decide +kernel
theorem d_Mg_goByPlan_2 : decode b_Mg_goByPlan 2 = .ok (.iload_n 1, 1) := by decide +kernel
theorem d_Mg_goByPlan_3 : decode b_Mg_goByPlan 3 = .ok (.aload_n 0, 1) := by decide +kernel
theorem d_Mg_goByPlan_4 : decode b_Mg_goByPlan 4 = .ok (.getfield 30, 3) := by decide +kernel
theorem d_Mg_goByPlan_7 : decode b_Mg_goByPlan 7 = .ok (.getfield 109, 3) := by decide +kernel
theorem d_Mg_goByPlan_10 : decode b_Mg_goByPlan 10 = .ok (.if_icmp .ge 106, 3) := by decide +kernel
theorem d_Mg_goByPlan_13 : decode b_Mg_goByPlan 13 = .ok (.aload_n 0, 1) := by decide +kernel
theorem d_Mg_goByPlan_14 : decode b_Mg_goByPlan 14 = .ok (.getfield 30, 3) := by decide +kernel
theorem d_Mg_goByPlan_17 : decode b_Mg_goByPlan 17 = .ok (.getfield 112, 3) := by decide +kernel
theorem d_Mg_goByPlan_20 : decode b_Mg_goByPlan 20 = .ok (.iload_n 1, 1) := by decide +kernel
theorem d_Mg_goByPlan_21 : decode b_Mg_goByPlan 21 = .ok (.iaload, 1) := by decide +kernel
theorem d_Mg_goByPlan_22 : decode b_Mg_goByPlan 22 = .ok (.istore_n 2, 1) := by decide +kernel
theorem d_Mg_goByPlan_23 : decode b_Mg_goByPlan 23 = .ok (.aload_n 0, 1) := by decide +kernel
theorem d_Mg_goByPlan_24 : decode b_Mg_goByPlan 24 = .ok (.getfield 30, 3) := by decide +kernel
theorem d_Mg_goByPlan_27 : decode b_Mg_goByPlan 27 = .ok (.getfield 115, 3) := by decide +kernel
theorem d_Mg_goByPlan_30 : decode b_Mg_goByPlan 30 = .ok (.iload_n 1, 1) := by decide +kernel
theorem d_Mg_goByPlan_31 : decode b_Mg_goByPlan 31 = .ok (.iaload, 1) := by decide +kernel
theorem d_Mg_goByPlan_32 : decode b_Mg_goByPlan 32 = .ok (.istore_n 3, 1) := by decide +kernel
theorem d_Mg_goByPlan_33 : decode b_Mg_goByPlan 33 = .ok (.iload_n 2, 1) := by decide +kernel
theorem d_Mg_goByPlan_34 : decode b_Mg_goByPlan 34 = .ok (.ifCond .ne 13, 3) := by decide +kernel
theorem d_Mg_goByPlan_37 : decode b_Mg_goByPlan 37 = .ok (.aload_n 0, 1) := by decide +kernel
theorem d_Mg_goByPlan_38 : decode b_Mg_goByPlan 38 = .ok (.iconst 1, 1) := by decide +kernel
theorem d_Mg_goByPlan_39 : decode b_Mg_goByPlan 39 = .ok (.ldc 118, 2) := by decide +kernel
theorem d_Mg_goByPlan_41 : decode b_Mg_goByPlan 41 = .ok (.invokevirtual 119, 3) := by decide +kernel
theorem d_Mg_goByPlan_44 : decode b_Mg_goByPlan 44 = .ok (.goto 66, 3) := by decide +kernel
theorem d_Mg_goByPlan_47 : decode b_Mg_goByPlan 47 = .ok (.iload_n 3, 1) := by decide +kernel
theorem d_Mg_goByPlan_48 : decode b_Mg_goByPlan 48 = .ok (.iconst 0, 1) := by decide +kernel
theorem d_Mg_goByPlan_49 : decode b_Mg_goByPlan 49 = .ok (.aload_n 0, 1) := by decide +kernel
theorem d_Mg_goByPlan_50 : decode b_Mg_goByPlan 50 = .ok (.getfield 41, 3) := by decide +kernel
theorem d_Mg_goByPlan_53 : decode b_Mg_goByPlan 53 = .ok (.iconst 1, 1) := by decide +kernel
theorem d_Mg_goByPlan_54 : decode b_Mg_goByPlan 54 = .ok (.isub, 1) := by decide +kernel
theorem d_Mg_goByPlan_55 : decode b_Mg_goByPlan 55 = .ok (.invokestatic 123, 3) := by decide +kernel
theorem d_Mg_goByPlan_58 : decode b_Mg_goByPlan 58 = .ok (.ifCond .eq 52, 3) := by decide +kernel
theorem d_Mg_goByPlan_61 : decode b_Mg_goByPlan 61 = .ok (.aload_n 0, 1) := by decide +kernel
theorem d_Mg_goByPlan_62 : decode b_Mg_goByPlan 62 = .ok (.getfield 11, 3) := by decide +kernel
theorem d_Mg_goByPlan_65 : decode b_Mg_goByPlan 65 = .ok (.iload_n 3, 1) := by decide +kernel
theorem d_Mg_goByPlan_66 : decode b_Mg_goByPlan 66 = .ok (.aaload, 1) := by decide +kernel
theorem d_Mg_goByPlan_67 : decode b_Mg_goByPlan 67 = .ok (.astore 4, 2) := by decide +kernel
theorem d_Mg_goByPlan_69 : decode b_Mg_goByPlan 69 = .ok (.iload_n 2, 1) := by decide +kernel
theorem d_Mg_goByPlan_70 : decode b_Mg_goByPlan 70 = .ok (.iconst 3, 1) := by decide +kernel
theorem d_Mg_goByPlan_71 : decode b_Mg_goByPlan 71 = .ok (.if_icmp .ne 24, 3) := by decide +kernel
theorem d_Mg_goByPlan_74 : decode b_Mg_goByPlan 74 = .ok (.aload 4, 2) := by decide +kernel
theorem d_Mg_goByPlan_76 : decode b_Mg_goByPlan 76 = .ok (.bipush 99, 2) := by decide +kernel
theorem d_Mg_goByPlan_78 : decode b_Mg_goByPlan 78 = .ok (.aload 4, 2) := by decide +kernel
theorem d_Mg_goByPlan_80 : decode b_Mg_goByPlan 80 = .ok (.getfield 127, 3) := by decide +kernel
theorem d_Mg_goByPlan_83 : decode b_Mg_goByPlan 83 = .ok (.bipush 10, 2) := by decide +kernel
theorem d_Mg_goByPlan_85 : decode b_Mg_goByPlan 85 = .ok (.iadd, 1) := by decide +kernel
theorem d_Mg_goByPlan_86 : decode b_Mg_goByPlan 86 = .ok (.invokestatic 84, 3) := by decide +kernel
theorem d_Mg_goByPlan_89 : decode b_Mg_goByPlan 89 = .ok (.putfield 127, 3) := by decide +kernel
theorem d_Mg_goByPlan_92 : decode b_Mg_goByPlan 92 = .ok (.goto 18, 3) := by decide +kernel
theorem d_Mg_goByPlan_95 : decode b_Mg_goByPlan 95 = .ok (.aload 4, 2) := by decide +kernel
theorem d_Mg_goByPlan_97 : decode b_Mg_goByPlan 97 = .ok (.iload_n 2, 1) := by decide +kernel
theorem d_Mg_goByPlan_98 : decode b_Mg_goByPlan 98 = .ok (.iconst 1, 1) := by decide +kernel
theorem d_Mg_goByPlan_99 : decode b_Mg_goByPlan 99 = .ok (.if_icmp .ne 7, 3) := by decide +kernel
theorem d_Mg_goByPlan_102 : decode b_Mg_goByPlan 102 = .ok (.iconst 1, 1) := by decide +kernel
theorem d_Mg_goByPlan_103 : decode b_Mg_goByPlan 103 = .ok (.goto 4, 3) := by decide +kernel
theorem d_Mg_goByPlan_106 : decode b_Mg_goByPlan 106 = .ok (.iconst 0, 1) := by decide +kernel
theorem d_Mg_goByPlan_107 : decode b_Mg_goByPlan 107 = .ok (.putfield 63, 3) := by decide +kernel
theorem d_Mg_goByPlan_110 : decode b_Mg_goByPlan 110 = .ok (.iinc 1 1, 3) := by decide +kernel
theorem d_Mg_goByPlan_113 : decode b_Mg_goByPlan 113 = .ok (.goto (-111), 3) := by decide +kernel
theorem d_Mg_goByPlan_116 : decode b_Mg_goByPlan 116 = .ok (.return_, 1) := by decide +kernel
theorem d_Mg_isAsSeen_0 : decode b_Mg_isAsSeen 0 = .ok (.iconst 0, 1) := by decide +kernel
theorem d_Mg_isAsSeen_1 : decode b_Mg_isAsSeen 1 = .ok (.istore_n 2, 1) := by decide +kernel
theorem d_Mg_isAsSeen_2 : decode b_Mg_isAsSeen 2 = .ok (.iload_n 2, 1) := by decide +kernel
theorem d_Mg_isAsSeen_3 : decode b_Mg_isAsSeen 3 = .ok (.aload_n 0, 1) := by decide +kernel
theorem d_Mg_isAsSeen_4 : decode b_Mg_isAsSeen 4 = .ok (.getfield 26, 3) := by decide +kernel
theorem d_Mg_isAsSeen_7 : decode b_Mg_isAsSeen 7 = .ok (.getfield 109, 3) := by decide +kernel
theorem d_Mg_isAsSeen_10 : decode b_Mg_isAsSeen 10 = .ok (.if_icmp .ge 53, 3) := by decide +kernel
theorem d_Mg_isAsSeen_13 : decode b_Mg_isAsSeen 13 = .ok (.aload_n 0, 1) := by decide +kernel
theorem d_Mg_isAsSeen_14 : decode b_Mg_isAsSeen 14 = .ok (.getfield 26, 3) := by decide +kernel
theorem d_Mg_isAsSeen_17 : decode b_Mg_isAsSeen 17 = .ok (.getfield 112, 3) := by decide +kernel
theorem d_Mg_isAsSeen_20 : decode b_Mg_isAsSeen 20 = .ok (.iload_n 2, 1) := by decide +kernel
theorem d_Mg_isAsSeen_21 : decode b_Mg_isAsSeen 21 = .ok (.iaload, 1) := by decide +kernel
theorem d_Mg_isAsSeen_22 : decode b_Mg_isAsSeen 22 = .ok (.aload_n 1, 1) := by decide +kernel
theorem d_Mg_isAsSeen_23 : decode b_Mg_isAsSeen 23 = .ok (.getfield 130, 3) := by decide +kernel
theorem d_Mg_isAsSeen_26 : decode b_Mg_isAsSeen 26 = .ok (.if_icmp .ne 31, 3) := by decide +kernel
theorem d_Mg_isAsSeen_29 : decode b_Mg_isAsSeen 29 = .ok (.aload_n 0, 1) := by decide +kernel
theorem d_Mg_isAsSeen_30 : decode b_Mg_isAsSeen 30 = .ok (.aload_n 1, 1) := by decide +kernel
theorem d_Mg_isAsSeen_31 : decode b_Mg_isAsSeen 31 = .ok (.aload_n 0, 1) := by decide +kernel
theorem d_Mg_isAsSeen_32 : decode b_Mg_isAsSeen 32 = .ok (.getfield 26, 3) := by decide +kernel
theorem d_Mg_isAsSeen_35 : decode b_Mg_isAsSeen 35 = .ok (.getfield 133, 3) := by decide +kernel
theorem d_Mg_isAsSeen_38 : decode b_Mg_isAsSeen 38 = .ok (.iload_n 2, 1) := by decide +kernel
theorem d_Mg_isAsSeen_39 : decode b_Mg_isAsSeen 39 = .ok (.iaload, 1) := by decide +kernel
theorem d_Mg_isAsSeen_40 : decode b_Mg_isAsSeen 40 = .ok (.invokevirtual 105, 3) := by decide +kernel
theorem d_Mg_isAsSeen_43 : decode b_Mg_isAsSeen 43 = .ok (.aload_n 0, 1) := by decide +kernel
theorem d_Mg_isAsSeen_44 : decode b_Mg_isAsSeen 44 = .ok (.getfield 26, 3) := by decide +kernel
theorem d_Mg_isAsSeen_47 : decode b_Mg_isAsSeen 47 = .ok (.getfield 115, 3) := by decide +kernel
theorem d_Mg_isAsSeen_50 : decode b_Mg_isAsSeen 50 = .ok (.iload_n 2, 1) := by decide +kernel
theorem d_Mg_isAsSeen_51 : decode b_Mg_isAsSeen 51 = .ok (.iaload, 1) := by decide +kernel
theorem d_Mg_isAsSeen_52 : decode b_Mg_isAsSeen 52 = .ok (.if_icmp .eq 5, 3) := by decide +kernel
theorem d_Mg_isAsSeen_55 : decode b_Mg_isAsSeen 55 = .ok (.iconst 0, 1) := by decide +kernel
theorem d_Mg_isAsSeen_56 : decode b_Mg_isAsSeen 56 = .ok (.ireturn, 1) := by decide +kernel
theorem d_Mg_isAsSeen_57 : decode b_Mg_isAsSeen 57 = .ok (.iinc 2 1, 3) := by decide +kernel
theorem d_Mg_isAsSeen_60 : decode b_Mg_isAsSeen 60 = .ok (.goto (-58), 3) := by decide +kernel
theorem d_Mg_isAsSeen_63 : decode b_Mg_isAsSeen 63 = .ok (.iconst 1, 1) := by decide +kernel
theorem d_Mg_isAsSeen_64 : decode b_Mg_isAsSeen 64 = .ok (.ireturn, 1) := by decide +kernel
theorem d_No_init_0 : decode b_No_init 0 = .ok (.aload_n 0, 1) := by decide +kernel
theorem d_No_init_1 : decode b_No_init 1 = .ok (.invokespecial 3, 3) := by decide +kernel
theorem d_No_init_4 : decode b_No_init 4 = .ok (.aload_n 0, 1) := by decide +kernel
theorem d_No_init_5 : decode b_No_init 5 = .ok (.iload_n 1, 1) := by decide +kernel
theorem d_No_init_6 : decode b_No_init 6 = .ok (.newarray .int, 2) := by decide +kernel
theorem d_No_init_8 : decode b_No_init 8 = .ok (.putfield 9, 3) := by decide +kernel
theorem d_No_init_11 : decode b_No_init 11 = .ok (.aload_n 0, 1) := by decide +kernel
theorem d_No_init_12 : decode b_No_init 12 = .ok (.iload_n 1, 1) := by decide +kernel
theorem d_No_init_13 : decode b_No_init 13 = .ok (.newarray .int, 2) := by decide +kernel
theorem d_No_init_15 : decode b_No_init 15 = .ok (.putfield 15, 3) := by decide +kernel
theorem d_No_init_18 : decode b_No_init 18 = .ok (.aload_n 0, 1) := by decide +kernel
theorem d_No_init_19 : decode b_No_init 19 = .ok (.iload_n 1, 1) := by decide +kernel
theorem d_No_init_20 : decode b_No_init 20 = .ok (.newarray .int, 2) := by decide +kernel
theorem d_No_init_22 : decode b_No_init 22 = .ok (.putfield 18, 3) := by decide +kernel
theorem d_No_init_25 : decode b_No_init 25 = .ok (.return_, 1) := by decide +kernel
theorem d_No_add_0 : decode b_No_add 0 = .ok (.aload_n 0, 1) := by decide +kernel
theorem d_No_add_1 : decode b_No_add 1 = .ok (.getfield 21, 3) := by decide +kernel
theorem d_No_add_4 : decode b_No_add 4 = .ok (.aload_n 0, 1) := by decide +kernel
theorem d_No_add_5 : decode b_No_add 5 = .ok (.getfield 9, 3) := by decide +kernel
theorem d_No_add_8 : decode b_No_add 8 = .ok (.arraylength, 1) := by decide +kernel
theorem d_No_add_9 : decode b_No_add 9 = .ok (.if_icmp .lt 6, 3) := by decide +kernel
theorem d_No_add_12 : decode b_No_add 12 = .ok (.bipush (-4), 2) := by decide +kernel
theorem d_No_add_14 : decode b_No_add 14 = .ok (.ireturn, 1) := by decide +kernel
theorem d_No_add_15 : decode b_No_add 15 = .ok (.aload_n 0, 1) := by decide +kernel
theorem d_No_add_16 : decode b_No_add 16 = .ok (.getfield 9, 3) := by decide +kernel
theorem d_No_add_19 : decode b_No_add 19 = .ok (.aload_n 0, 1) := by decide +kernel
theorem d_No_add_20 : decode b_No_add 20 = .ok (.getfield 21, 3) := by decide +kernel
theorem d_No_add_23 : decode b_No_add 23 = .ok (.iload_n 1, 1) := by decide +kernel
theorem d_No_add_24 : decode b_No_add 24 = .ok (.iastore, 1) := by decide +kernel
theorem d_No_add_25 : decode b_No_add 25 = .ok (.aload_n 0, 1) := by decide +kernel
theorem d_No_add_26 : decode b_No_add 26 = .ok (.getfield 15, 3) := by decide +kernel
theorem d_No_add_29 : decode b_No_add 29 = .ok (.aload_n 0, 1) := by decide +kernel
theorem d_No_add_30 : decode b_No_add 30 = .ok (.getfield 21, 3) := by decide +kernel
theorem d_No_add_33 : decode b_No_add 33 = .ok (.iload_n 2, 1) := by decide +kernel
theorem d_No_add_34 : decode b_No_add 34 = .ok (.iastore, 1) := by decide +kernel
theorem d_No_add_35 : decode b_No_add 35 = .ok (.aload_n 0, 1) := by decide +kernel
theorem d_No_add_36 : decode b_No_add 36 = .ok (.getfield 18, 3) := by decide +kernel
theorem d_No_add_39 : decode b_No_add 39 = .ok (.aload_n 0, 1) := by decide +kernel
theorem d_No_add_40 : decode b_No_add 40 = .ok (.getfield 21, 3) := by decide +kernel
theorem d_No_add_43 : decode b_No_add 43 = .ok (.iload_n 3, 1) := by decide +kernel
theorem d_No_add_44 : decode b_No_add 44 = .ok (.iastore, 1) := by decide +kernel
theorem d_No_add_45 : decode b_No_add 45 = .ok (.aload_n 0, 1) := by decide +kernel
theorem d_No_add_46 : decode b_No_add 46 = .ok (.dup, 1) := by decide +kernel
theorem d_No_add_47 : decode b_No_add 47 = .ok (.getfield 21, 3) := by decide +kernel
theorem d_No_add_50 : decode b_No_add 50 = .ok (.iconst 1, 1) := by decide +kernel
theorem d_No_add_51 : decode b_No_add 51 = .ok (.iadd, 1) := by decide +kernel
theorem d_No_add_52 : decode b_No_add 52 = .ok (.putfield 21, 3) := by decide +kernel
theorem d_No_add_55 : decode b_No_add 55 = .ok (.aload_n 0, 1) := by decide +kernel
theorem d_No_add_56 : decode b_No_add 56 = .ok (.getfield 21, 3) := by decide +kernel
theorem d_No_add_59 : decode b_No_add 59 = .ok (.ireturn, 1) := by decide +kernel
theorem d_No_becomes_0 : decode b_No_becomes 0 = .ok (.aload_n 0, 1) := by decide +kernel
theorem d_No_becomes_1 : decode b_No_becomes 1 = .ok (.aload_n 0, 1) := by decide +kernel
theorem d_No_becomes_2 : decode b_No_becomes 2 = .ok (.getfield 9, 3) := by decide +kernel
theorem d_No_becomes_5 : decode b_No_becomes 5 = .ok (.arraylength, 1) := by decide +kernel
theorem d_No_becomes_6 : decode b_No_becomes 6 = .ok (.aload_n 1, 1) := by decide +kernel
theorem d_No_becomes_7 : decode b_No_becomes 7 = .ok (.getfield 21, 3) := by decide +kernel
theorem d_No_becomes_10 : decode b_No_becomes 10 = .ok (.invokestatic 25, 3) := by decide +kernel
theorem d_No_becomes_13 : decode b_No_becomes 13 = .ok (.putfield 21, 3) := by decide +kernel
theorem d_No_becomes_16 : decode b_No_becomes 16 = .ok (.iconst 0, 1) := by decide +kernel
theorem d_No_becomes_17 : decode b_No_becomes 17 = .ok (.istore_n 2, 1) := by decide +kernel
theorem d_No_becomes_18 : decode b_No_becomes 18 = .ok (.iload_n 2, 1) := by decide +kernel
theorem d_No_becomes_19 : decode b_No_becomes 19 = .ok (.aload_n 0, 1) := by decide +kernel
theorem d_No_becomes_20 : decode b_No_becomes 20 = .ok (.getfield 21, 3) := by decide +kernel
theorem d_No_becomes_23 : decode b_No_becomes 23 = .ok (.if_icmp .ge 45, 3) := by decide +kernel
theorem d_No_becomes_26 : decode b_No_becomes 26 = .ok (.aload_n 0, 1) := by decide +kernel
theorem d_No_becomes_27 : decode b_No_becomes 27 = .ok (.getfield 9, 3) := by decide +kernel
theorem d_No_becomes_30 : decode b_No_becomes 30 = .ok (.iload_n 2, 1) := by decide +kernel
theorem d_No_becomes_31 : decode b_No_becomes 31 = .ok (.aload_n 1, 1) := by decide +kernel
theorem d_No_becomes_32 : decode b_No_becomes 32 = .ok (.getfield 9, 3) := by decide +kernel
theorem d_No_becomes_35 : decode b_No_becomes 35 = .ok (.iload_n 2, 1) := by decide +kernel
theorem d_No_becomes_36 : decode b_No_becomes 36 = .ok (.iaload, 1) := by decide +kernel
theorem d_No_becomes_37 : decode b_No_becomes 37 = .ok (.iastore, 1) := by decide +kernel
theorem d_No_becomes_38 : decode b_No_becomes 38 = .ok (.aload_n 0, 1) := by decide +kernel
theorem d_No_becomes_39 : decode b_No_becomes 39 = .ok (.getfield 15, 3) := by decide +kernel
theorem d_No_becomes_42 : decode b_No_becomes 42 = .ok (.iload_n 2, 1) := by decide +kernel
theorem d_No_becomes_43 : decode b_No_becomes 43 = .ok (.aload_n 1, 1) := by decide +kernel
theorem d_No_becomes_44 : decode b_No_becomes 44 = .ok (.getfield 15, 3) := by decide +kernel
theorem d_No_becomes_47 : decode b_No_becomes 47 = .ok (.iload_n 2, 1) := by decide +kernel
theorem d_No_becomes_48 : decode b_No_becomes 48 = .ok (.iaload, 1) := by decide +kernel
theorem d_No_becomes_49 : decode b_No_becomes 49 = .ok (.iastore, 1) := by decide +kernel
theorem d_No_becomes_50 : decode b_No_becomes 50 = .ok (.aload_n 0, 1) := by decide +kernel
theorem d_No_becomes_51 : decode b_No_becomes 51 = .ok (.getfield 18, 3) := by decide +kernel
theorem d_No_becomes_54 : decode b_No_becomes 54 = .ok (.iload_n 2, 1) := by decide +kernel
theorem d_No_becomes_55 : decode b_No_becomes 55 = .ok (.aload_n 1, 1) := by decide +kernel
theorem d_No_becomes_56 : decode b_No_becomes 56 = .ok (.getfield 18, 3) := by decide +kernel
theorem d_No_becomes_59 : decode b_No_becomes 59 = .ok (.iload_n 2, 1) := by decide +kernel
theorem d_No_becomes_60 : decode b_No_becomes 60 = .ok (.iaload, 1) := by decide +kernel
theorem d_No_becomes_61 : decode b_No_becomes 61 = .ok (.iastore, 1) := by decide +kernel
theorem d_No_becomes_62 : decode b_No_becomes 62 = .ok (.iinc 2 1, 3) := by decide +kernel
theorem d_No_becomes_65 : decode b_No_becomes 65 = .ok (.goto (-47), 3) := by decide +kernel
theorem d_No_becomes_68 : decode b_No_becomes 68 = .ok (.return_, 1) := by decide +kernel
theorem d_Re_init_0 : decode b_Re_init 0 = .ok (.aload_n 0, 1) := by decide +kernel
theorem d_Re_init_1 : decode b_Re_init 1 = .ok (.invokespecial 3, 3) := by decide +kernel
theorem d_Re_init_4 : decode b_Re_init 4 = .ok (.aload_n 0, 1) := by decide +kernel
theorem d_Re_init_5 : decode b_Re_init 5 = .ok (.bipush 100, 2) := by decide +kernel
theorem d_Re_init_7 : decode b_Re_init 7 = .ok (.newarray .byte, 2) := by decide +kernel
theorem d_Re_init_9 : decode b_Re_init 9 = .ok (.putfield 9, 3) := by decide +kernel
theorem d_Re_init_12 : decode b_Re_init 12 = .ok (.return_, 1) := by decide +kernel
theorem d_Re_reads_0 : decode b_Re_reads 0 = .ok (.aload_n 1, 1) := by decide +kernel
theorem d_Re_reads_1 : decode b_Re_reads 1 = .ok (.invokevirtual 15, 3) := by decide +kernel
theorem d_Re_reads_4 : decode b_Re_reads 4 = .ok (.aload_n 0, 1) := by decide +kernel
theorem d_Re_reads_5 : decode b_Re_reads 5 = .ok (.iconst 0, 1) := by decide +kernel
theorem d_Re_reads_6 : decode b_Re_reads 6 = .ok (.putfield 20, 3) := by decide +kernel
theorem d_Re_reads_9 : decode b_Re_reads 9 = .ok (.aload_n 0, 1) := by decide +kernel
theorem d_Re_reads_10 : decode b_Re_reads 10 = .ok (.iconst 0, 1) := by decide +kernel
theorem d_Re_reads_11 : decode b_Re_reads 11 = .ok (.putfield 24, 3) := by decide +kernel
theorem d_Re_reads_14 : decode b_Re_reads 14 = .ok (.aload_n 0, 1) := by decide +kernel
theorem d_Re_reads_15 : decode b_Re_reads 15 = .ok (.aload_n 1, 1) := by decide +kernel
theorem d_Re_reads_16 : decode b_Re_reads 16 = .ok (.invokevirtual 28, 3) := by decide +kernel
theorem d_Re_reads_19 : decode b_Re_reads 19 = .ok (.iconst 1, 1) := by decide +kernel
theorem d_Re_reads_20 : decode b_Re_reads 20 = .ok (.istore_n 2, 1) := by decide +kernel
theorem d_Re_reads_21 : decode b_Re_reads 21 = .ok (.iload_n 2, 1) := by decide +kernel
theorem d_Re_reads_22 : decode b_Re_reads 22 = .ok (.bipush 10, 2) := by decide +kernel
theorem d_Re_reads_24 : decode b_Re_reads 24 = .ok (.if_icmp .ge 33, 3) := by decide +kernel
theorem d_Re_reads_27 : decode b_Re_reads 27 = .ok (.aload_n 0, 1) := by decide +kernel
theorem d_Re_reads_28 : decode b_Re_reads 28 = .ok (.invokevirtual 32, 3) := by decide +kernel
theorem d_Re_reads_31 : decode b_Re_reads 31 = .ok (.bipush 59, 2) := by decide +kernel
theorem d_Re_reads_33 : decode b_Re_reads 33 = .ok (.if_icmp .ne 24, 3) := by decide +kernel
theorem d_Re_reads_36 : decode b_Re_reads 36 = .ok (.aload_n 0, 1) := by decide +kernel
theorem d_Re_reads_37 : decode b_Re_reads 37 = .ok (.dup, 1) := by decide +kernel
theorem d_Re_reads_38 : decode b_Re_reads 38 = .ok (.getfield 20, 3) := by decide +kernel
theorem d_Re_reads_41 : decode b_Re_reads 41 = .ok (.iconst 1, 1) := by decide +kernel
theorem d_Re_reads_42 : decode b_Re_reads 42 = .ok (.iadd, 1) := by decide +kernel
theorem d_Re_reads_43 : decode b_Re_reads 43 = .ok (.putfield 20, 3) := by decide +kernel
theorem d_Re_reads_46 : decode b_Re_reads 46 = .ok (.aload_n 0, 1) := by decide +kernel
theorem d_Re_reads_47 : decode b_Re_reads 47 = .ok (.aload_n 1, 1) := by decide +kernel
theorem d_Re_reads_48 : decode b_Re_reads 48 = .ok (.invokevirtual 28, 3) := by decide +kernel
theorem d_Re_reads_51 : decode b_Re_reads 51 = .ok (.iinc 2 1, 3) := by decide +kernel
theorem d_Re_reads_54 : decode b_Re_reads 54 = .ok (.goto (-33), 3) := by decide +kernel
theorem d_Re_reads_57 : decode b_Re_reads 57 = .ok (.aload_n 0, 1) := by decide +kernel
theorem d_Re_reads_58 : decode b_Re_reads 58 = .ok (.getfield 24, 3) := by decide +kernel
theorem d_Re_reads_61 : decode b_Re_reads 61 = .ok (.ifCond .ne 18, 3) := by decide +kernel
theorem d_Re_reads_64 : decode b_Re_reads 64 = .ok (.aload_n 0, 1) := by decide +kernel
theorem d_Re_reads_65 : decode b_Re_reads 65 = .ok (.getfield 20, 3) := by decide +kernel
theorem d_Re_reads_68 : decode b_Re_reads 68 = .ok (.aload_n 0, 1) := by decide +kernel
theorem d_Re_reads_69 : decode b_Re_reads 69 = .ok (.getfield 36, 3) := by decide +kernel
theorem d_Re_reads_72 : decode b_Re_reads 72 = .ok (.if_icmp .ne 7, 3) := by decide +kernel
theorem d_Re_reads_75 : decode b_Re_reads 75 = .ok (.iconst 1, 1) := by decide +kernel
theorem d_Re_reads_76 : decode b_Re_reads 76 = .ok (.goto 4, 3) := by decide +kernel
theorem d_Re_reads_79 : decode b_Re_reads 79 = .ok (.iconst 0, 1) := by decide +kernel
theorem d_Re_reads_80 : decode b_Re_reads 80 = .ok (.ireturn, 1) := by decide +kernel
theorem d_Re_clause_0 : decode b_Re_clause 0 = .ok (.aload_n 0, 1) := by decide +kernel
theorem d_Re_clause_1 : decode b_Re_clause 1 = .ok (.invokevirtual 32, 3) := by decide +kernel
theorem d_Re_clause_4 : decode b_Re_clause 4 = .ok (.bipush 97, 2) := by decide +kernel
theorem d_Re_clause_6 : decode b_Re_clause 6 = .ok (.if_icmp .ne 7, 3) := by decide +kernel
theorem d_Re_clause_9 : decode b_Re_clause 9 = .ok (.iconst 1, 1) := by decide +kernel
theorem d_Re_clause_10 : decode b_Re_clause 10 = .ok (.goto 4, 3) := by decide +kernel
theorem d_Re_clause_13 : decode b_Re_clause 13 = .ok (.iconst 0, 1) := by decide +kernel
theorem d_Re_clause_14 : decode b_Re_clause 14 = .ok (.istore_n 2, 1) := by decide +kernel
theorem d_Re_clause_15 : decode b_Re_clause 15 = .ok (.aload_n 0, 1) := by decide +kernel
theorem d_Re_clause_16 : decode b_Re_clause 16 = .ok (.invokevirtual 32, 3) := by decide +kernel
theorem d_Re_clause_19 : decode b_Re_clause 19 = .ok (.bipush 99, 2) := by decide +kernel
theorem d_Re_clause_21 : decode b_Re_clause 21 = .ok (.if_icmp .ne 7, 3) := by decide +kernel
theorem d_Re_clause_24 : decode b_Re_clause 24 = .ok (.iconst 1, 1) := by decide +kernel
theorem d_Re_clause_25 : decode b_Re_clause 25 = .ok (.goto 4, 3) := by decide +kernel
theorem d_Re_clause_28 : decode b_Re_clause 28 = .ok (.iconst 0, 1) := by decide +kernel
theorem d_Re_clause_29 : decode b_Re_clause 29 = .ok (.istore_n 3, 1) := by decide +kernel
theorem d_Re_clause_30 : decode b_Re_clause 30 = .ok (.aload_n 0, 1) := by decide +kernel
theorem d_Re_clause_31 : decode b_Re_clause 31 = .ok (.iload_n 2, 1) := by decide +kernel
theorem d_Re_clause_32 : decode b_Re_clause 32 = .ok (.ifCond .eq 8, 3) := by decide +kernel
theorem d_Re_clause_35 : decode b_Re_clause 35 = .ok (.ldc 39, 2) := by decide +kernel
theorem d_Re_clause_37 : decode b_Re_clause 37 = .ok (.goto 14, 3) := by decide +kernel
theorem d_Re_clause_40 : decode b_Re_clause 40 = .ok (.iload_n 3, 1) := by decide +kernel
theorem d_Re_clause_41 : decode b_Re_clause 41 = .ok (.ifCond .eq 8, 3) := by decide +kernel
theorem d_Re_clause_44 : decode b_Re_clause 44 = .ok (.ldc 41, 2) := by decide +kernel
theorem d_Re_clause_46 : decode b_Re_clause 46 = .ok (.goto 5, 3) := by decide +kernel
theorem d_Re_clause_49 : decode b_Re_clause 49 = .ok (.ldc 43, 2) := by decide +kernel
theorem d_Re_clause_51 : decode b_Re_clause 51 = .ok (.invokevirtual 45, 3) := by decide +kernel
theorem d_Re_clause_54 : decode b_Re_clause 54 = .ok (.aload_n 0, 1) := by decide +kernel
theorem d_Re_clause_55 : decode b_Re_clause 55 = .ok (.invokevirtual 49, 3) := by decide +kernel
theorem d_Re_clause_58 : decode b_Re_clause 58 = .ok (.istore 4, 2) := by decide +kernel
theorem d_Re_clause_60 : decode b_Re_clause 60 = .ok (.iload_n 2, 1) := by decide +kernel
theorem d_Re_clause_61 : decode b_Re_clause 61 = .ok (.ifCond .ne 7, 3) := by decide +kernel
theorem d_Re_clause_64 : decode b_Re_clause 64 = .ok (.iload_n 3, 1) := by decide +kernel
theorem d_Re_clause_65 : decode b_Re_clause 65 = .ok (.ifCond .eq 34, 3) := by decide +kernel
theorem d_Re_clause_68 : decode b_Re_clause 68 = .ok (.aload_n 0, 1) := by decide +kernel
theorem d_Re_clause_69 : decode b_Re_clause 69 = .ok (.ldc 52, 2) := by decide +kernel
theorem d_Re_clause_71 : decode b_Re_clause 71 = .ok (.invokevirtual 45, 3) := by decide +kernel
theorem d_Re_clause_74 : decode b_Re_clause 74 = .ok (.aload_n 0, 1) := by decide +kernel
theorem d_Re_clause_75 : decode b_Re_clause 75 = .ok (.aload_n 1, 1) := by decide +kernel
theorem d_Re_clause_76 : decode b_Re_clause 76 = .ok (.iconst 0, 1) := by decide +kernel
theorem d_Re_clause_77 : decode b_Re_clause 77 = .ok (.invokevirtual 54, 3) := by decide +kernel
theorem d_Re_clause_80 : decode b_Re_clause 80 = .ok (.aload_n 1, 1) := by decide +kernel
theorem d_Re_clause_81 : decode b_Re_clause 81 = .ok (.iload_n 2, 1) := by decide +kernel
theorem d_Re_clause_82 : decode b_Re_clause 82 = .ok (.ifCond .eq 8, 3) := by decide +kernel
theorem d_Re_clause_85 : decode b_Re_clause 85 = .ok (.iload 4, 2) := by decide +kernel
theorem d_Re_clause_87 : decode b_Re_clause 87 = .ok (.goto 6, 3) := by decide +kernel
theorem d_Re_clause_90 : decode b_Re_clause 90 = .ok (.iload 4, 2) := by decide +kernel
theorem d_Re_clause_92 : decode b_Re_clause 92 = .ok (.ineg, 1) := by decide +kernel
theorem d_Re_clause_93 : decode b_Re_clause 93 = .ok (.invokevirtual 58, 3) := by decide +kernel
theorem d_Re_clause_96 : decode b_Re_clause 96 = .ok (.goto 9, 3) := by decide +kernel
theorem d_Re_clause_99 : decode b_Re_clause 99 = .ok (.aload_n 1, 1) := by decide +kernel
theorem d_Re_clause_100 : decode b_Re_clause 100 = .ok (.iload 4, 2) := by decide +kernel
theorem d_Re_clause_102 : decode b_Re_clause 102 = .ok (.putfield 62, 3) := by decide +kernel
theorem d_Re_clause_105 : decode b_Re_clause 105 = .ok (.return_, 1) := by decide +kernel
theorem d_Re_either_0 : decode b_Re_either 0 = .ok (.aload_n 0, 1) := by decide +kernel
theorem d_Re_either_1 : decode b_Re_either 1 = .ok (.aload_n 1, 1) := by decide +kernel
theorem d_Re_either_2 : decode b_Re_either 2 = .ok (.iload_n 2, 1) := by decide +kernel
theorem d_Re_either_3 : decode b_Re_either 3 = .ok (.invokevirtual 65, 3) := by decide +kernel
theorem d_Re_either_6 : decode b_Re_either 6 = .ok (.iconst 0, 1) := by decide +kernel
theorem d_Re_either_7 : decode b_Re_either 7 = .ok (.istore_n 3, 1) := by decide +kernel
theorem d_Re_either_8 : decode b_Re_either 8 = .ok (.bipush 100, 2) := by decide +kernel
theorem d_Re_either_10 : decode b_Re_either 10 = .ok (.istore 4, 2) := by decide +kernel
theorem d_Re_either_12 : decode b_Re_either 12 = .ok (.iload 4, 2) := by decide +kernel
theorem d_Re_either_14 : decode b_Re_either 14 = .ok (.ifCond .le 100, 3) := by decide +kernel
theorem d_Re_either_17 : decode b_Re_either 17 = .ok (.aload_n 0, 1) := by decide +kernel
theorem d_Re_either_18 : decode b_Re_either 18 = .ok (.invokevirtual 32, 3) := by decide +kernel
theorem d_Re_either_21 : decode b_Re_either 21 = .ok (.bipush 38, 2) := by decide +kernel
theorem d_Re_either_23 : decode b_Re_either 23 = .ok (.if_icmp .eq 12, 3) := by decide +kernel
theorem d_Re_either_26 : decode b_Re_either 26 = .ok (.aload_n 0, 1) := by decide +kernel
theorem d_Re_either_27 : decode b_Re_either 27 = .ok (.invokevirtual 32, 3) := by decide +kernel
theorem d_Re_either_30 : decode b_Re_either 30 = .ok (.bipush 124, 2) := by decide +kernel
theorem d_Re_either_32 : decode b_Re_either 32 = .ok (.if_icmp .ne 82, 3) := by decide +kernel
theorem d_Re_either_35 : decode b_Re_either 35 = .ok (.aload_n 0, 1) := by decide +kernel
theorem d_Re_either_36 : decode b_Re_either 36 = .ok (.invokevirtual 32, 3) := by decide +kernel
theorem d_Re_either_39 : decode b_Re_either 39 = .ok (.bipush 38, 2) := by decide +kernel
theorem d_Re_either_41 : decode b_Re_either 41 = .ok (.if_icmp .ne 7, 3) := by decide +kernel
theorem d_Re_either_44 : decode b_Re_either 44 = .ok (.iconst 1, 1) := by decide +kernel
theorem d_Re_either_45 : decode b_Re_either 45 = .ok (.goto 4, 3) := by decide +kernel
theorem d_Re_either_48 : decode b_Re_either 48 = .ok (.iconst 0, 1) := by decide +kernel
theorem d_Re_either_49 : decode b_Re_either 49 = .ok (.istore 5, 2) := by decide +kernel
theorem d_Re_either_51 : decode b_Re_either 51 = .ok (.aload_n 0, 1) := by decide +kernel
theorem d_Re_either_52 : decode b_Re_either 52 = .ok (.dup, 1) := by decide +kernel
theorem d_Re_either_53 : decode b_Re_either 53 = .ok (.getfield 20, 3) := by decide +kernel
theorem d_Re_either_56 : decode b_Re_either 56 = .ok (.iconst 1, 1) := by decide +kernel
theorem d_Re_either_57 : decode b_Re_either 57 = .ok (.iadd, 1) := by decide +kernel
theorem d_Re_either_58 : decode b_Re_either 58 = .ok (.putfield 20, 3) := by decide +kernel
theorem d_Re_either_61 : decode b_Re_either 61 = .ok (.iload_n 3, 1) := by decide +kernel
theorem d_Re_either_62 : decode b_Re_either 62 = .ok (.ifCond .eq 14, 3) := by decide +kernel
theorem d_Re_either_65 : decode b_Re_either 65 = .ok (.iload 5, 2) := by decide +kernel
theorem d_Re_either_67 : decode b_Re_either 67 = .ok (.ifCond .ne 9, 3) := by decide +kernel
theorem d_Re_either_70 : decode b_Re_either 70 = .ok (.aload_n 1, 1) := by decide +kernel
theorem d_Re_either_71 : decode b_Re_either 71 = .ok (.bipush (-3), 2) := by decide +kernel
theorem d_Re_either_73 : decode b_Re_either 73 = .ok (.invokevirtual 68, 3) := by decide +kernel
theorem d_Re_either_76 : decode b_Re_either 76 = .ok (.iload_n 3, 1) := by decide +kernel
theorem d_Re_either_77 : decode b_Re_either 77 = .ok (.ifCond .ne 8, 3) := by decide +kernel
theorem d_Re_either_80 : decode b_Re_either 80 = .ok (.iload 5, 2) := by decide +kernel
theorem d_Re_either_82 : decode b_Re_either 82 = .ok (.ifCond .ne 7, 3) := by decide +kernel
theorem d_Re_either_85 : decode b_Re_either 85 = .ok (.iconst 1, 1) := by decide +kernel
theorem d_Re_either_86 : decode b_Re_either 86 = .ok (.goto 4, 3) := by decide +kernel
theorem d_Re_either_89 : decode b_Re_either 89 = .ok (.iconst 0, 1) := by decide +kernel
theorem d_Re_either_90 : decode b_Re_either 90 = .ok (.istore_n 3, 1) := by decide +kernel
theorem d_Re_either_91 : decode b_Re_either 91 = .ok (.aload_n 0, 1) := by decide +kernel
theorem d_Re_either_92 : decode b_Re_either 92 = .ok (.aload_n 1, 1) := by decide +kernel
theorem d_Re_either_93 : decode b_Re_either 93 = .ok (.iload_n 2, 1) := by decide +kernel
theorem d_Re_either_94 : decode b_Re_either 94 = .ok (.invokevirtual 65, 3) := by decide +kernel
theorem d_Re_either_97 : decode b_Re_either 97 = .ok (.iload 5, 2) := by decide +kernel
theorem d_Re_either_99 : decode b_Re_either 99 = .ok (.ifCond .eq 9, 3) := by decide +kernel
theorem d_Re_either_102 : decode b_Re_either 102 = .ok (.aload_n 1, 1) := by decide +kernel
theorem d_Re_either_103 : decode b_Re_either 103 = .ok (.bipush (-2), 2) := by decide +kernel
theorem d_Re_either_105 : decode b_Re_either 105 = .ok (.invokevirtual 68, 3) := by decide +kernel
theorem d_Re_either_108 : decode b_Re_either 108 = .ok (.iinc 4 (-1), 3) := by decide +kernel
theorem d_Re_either_111 : decode b_Re_either 111 = .ok (.goto (-99), 3) := by decide +kernel
theorem d_Re_either_114 : decode b_Re_either 114 = .ok (.iload_n 3, 1) := by decide +kernel
theorem d_Re_either_115 : decode b_Re_either 115 = .ok (.ifCond .eq 9, 3) := by decide +kernel
theorem d_Re_either_118 : decode b_Re_either 118 = .ok (.aload_n 1, 1) := by decide +kernel
theorem d_Re_either_119 : decode b_Re_either 119 = .ok (.bipush (-3), 2) := by decide +kernel
theorem d_Re_either_121 : decode b_Re_either 121 = .ok (.invokevirtual 68, 3) := by decide +kernel
theorem d_Re_either_124 : decode b_Re_either 124 = .ok (.return_, 1) := by decide +kernel
theorem d_Re_one_0 : decode b_Re_one 0 = .ok (.aload_n 0, 1) := by decide +kernel
theorem d_Re_one_1 : decode b_Re_one 1 = .ok (.invokevirtual 32, 3) := by decide +kernel
theorem d_Re_one_4 : decode b_Re_one 4 = .ok (.bipush 33, 2) := by decide +kernel
theorem d_Re_one_6 : decode b_Re_one 6 = .ok (.if_icmp .ne 34, 3) := by decide +kernel
theorem d_Re_one_9 : decode b_Re_one 9 = .ok (.iload_n 2, 1) := by decide +kernel
theorem d_Re_one_10 : decode b_Re_one 10 = .ok (.iconst 4, 1) := by decide +kernel
theorem d_Re_one_11 : decode b_Re_one 11 = .ok (.if_icmp .ge 29, 3) := by decide +kernel
theorem d_Re_one_14 : decode b_Re_one 14 = .ok (.aload_n 0, 1) := by decide +kernel
theorem d_Re_one_15 : decode b_Re_one 15 = .ok (.dup, 1) := by decide +kernel
theorem d_Re_one_16 : decode b_Re_one 16 = .ok (.getfield 20, 3) := by decide +kernel
theorem d_Re_one_19 : decode b_Re_one 19 = .ok (.iconst 1, 1) := by decide +kernel
theorem d_Re_one_20 : decode b_Re_one 20 = .ok (.iadd, 1) := by decide +kernel
theorem d_Re_one_21 : decode b_Re_one 21 = .ok (.putfield 20, 3) := by decide +kernel
theorem d_Re_one_24 : decode b_Re_one 24 = .ok (.aload_n 0, 1) := by decide +kernel
theorem d_Re_one_25 : decode b_Re_one 25 = .ok (.aload_n 1, 1) := by decide +kernel
theorem d_Re_one_26 : decode b_Re_one 26 = .ok (.iload_n 2, 1) := by decide +kernel
theorem d_Re_one_27 : decode b_Re_one 27 = .ok (.iconst 1, 1) := by decide +kernel
theorem d_Re_one_28 : decode b_Re_one 28 = .ok (.iadd, 1) := by decide +kernel
theorem d_Re_one_29 : decode b_Re_one 29 = .ok (.invokevirtual 65, 3) := by decide +kernel
theorem d_Re_one_32 : decode b_Re_one 32 = .ok (.aload_n 1, 1) := by decide +kernel
theorem d_Re_one_33 : decode b_Re_one 33 = .ok (.iconst (-1), 1) := by decide +kernel
theorem d_Re_one_34 : decode b_Re_one 34 = .ok (.invokevirtual 68, 3) := by decide +kernel
theorem d_Re_one_37 : decode b_Re_one 37 = .ok (.goto 73, 3) := by decide +kernel
theorem d_Re_one_40 : decode b_Re_one 40 = .ok (.aload_n 0, 1) := by decide +kernel
theorem d_Re_one_41 : decode b_Re_one 41 = .ok (.invokevirtual 32, 3) := by decide +kernel
theorem d_Re_one_44 : decode b_Re_one 44 = .ok (.bipush 40, 2) := by decide +kernel
theorem d_Re_one_46 : decode b_Re_one 46 = .ok (.if_icmp .ne 35, 3) := by decide +kernel
theorem d_Re_one_49 : decode b_Re_one 49 = .ok (.iload_n 2, 1) := by decide +kernel
theorem d_Re_one_50 : decode b_Re_one 50 = .ok (.iconst 4, 1) := by decide +kernel
theorem d_Re_one_51 : decode b_Re_one 51 = .ok (.if_icmp .ge 30, 3) := by decide +kernel
theorem d_Re_one_54 : decode b_Re_one 54 = .ok (.aload_n 0, 1) := by decide +kernel
theorem d_Re_one_55 : decode b_Re_one 55 = .ok (.dup, 1) := by decide +kernel
theorem d_Re_one_56 : decode b_Re_one 56 = .ok (.getfield 20, 3) := by decide +kernel
theorem d_Re_one_59 : decode b_Re_one 59 = .ok (.iconst 1, 1) := by decide +kernel
theorem d_Re_one_60 : decode b_Re_one 60 = .ok (.iadd, 1) := by decide +kernel
theorem d_Re_one_61 : decode b_Re_one 61 = .ok (.putfield 20, 3) := by decide +kernel
theorem d_Re_one_64 : decode b_Re_one 64 = .ok (.aload_n 0, 1) := by decide +kernel
theorem d_Re_one_65 : decode b_Re_one 65 = .ok (.aload_n 1, 1) := by decide +kernel
theorem d_Re_one_66 : decode b_Re_one 66 = .ok (.iload_n 2, 1) := by decide +kernel
theorem d_Re_one_67 : decode b_Re_one 67 = .ok (.iconst 1, 1) := by decide +kernel
theorem d_Re_one_68 : decode b_Re_one 68 = .ok (.iadd, 1) := by decide +kernel
theorem d_Re_one_69 : decode b_Re_one 69 = .ok (.invokevirtual 54, 3) := by decide +kernel
theorem d_Re_one_72 : decode b_Re_one 72 = .ok (.aload_n 0, 1) := by decide +kernel
theorem d_Re_one_73 : decode b_Re_one 73 = .ok (.ldc 71, 2) := by decide +kernel
theorem d_Re_one_75 : decode b_Re_one 75 = .ok (.invokevirtual 45, 3) := by decide +kernel
theorem d_Re_one_78 : decode b_Re_one 78 = .ok (.goto 32, 3) := by decide +kernel
theorem d_Re_one_81 : decode b_Re_one 81 = .ok (.aload_n 0, 1) := by decide +kernel
theorem d_Re_one_82 : decode b_Re_one 82 = .ok (.ldc 73, 2) := by decide +kernel
theorem d_Re_one_84 : decode b_Re_one 84 = .ok (.invokevirtual 75, 3) := by decide +kernel
theorem d_Re_one_87 : decode b_Re_one 87 = .ok (.istore_n 3, 1) := by decide +kernel
theorem d_Re_one_88 : decode b_Re_one 88 = .ok (.aload_n 0, 1) := by decide +kernel
theorem d_Re_one_89 : decode b_Re_one 89 = .ok (.ldc 79, 2) := by decide +kernel
theorem d_Re_one_91 : decode b_Re_one 91 = .ok (.invokevirtual 75, 3) := by decide +kernel
theorem d_Re_one_94 : decode b_Re_one 94 = .ok (.istore 4, 2) := by decide +kernel
theorem d_Re_one_96 : decode b_Re_one 96 = .ok (.aload_n 1, 1) := by decide +kernel
theorem d_Re_one_97 : decode b_Re_one 97 = .ok (.iload_n 3, 1) := by decide +kernel
theorem d_Re_one_98 : decode b_Re_one 98 = .ok (.iload 4, 2) := by decide +kernel
theorem d_Re_one_100 : decode b_Re_one 100 = .ok (.aload_n 0, 1) := by decide +kernel
theorem d_Re_one_101 : decode b_Re_one 101 = .ok (.invokevirtual 49, 3) := by decide +kernel
theorem d_Re_one_104 : decode b_Re_one 104 = .ok (.invokestatic 81, 3) := by decide +kernel
theorem d_Re_one_107 : decode b_Re_one 107 = .ok (.invokevirtual 68, 3) := by decide +kernel
theorem d_Re_one_110 : decode b_Re_one 110 = .ok (.return_, 1) := by decide +kernel
theorem d_Re_number_0 : decode b_Re_number 0 = .ok (.iconst 0, 1) := by decide +kernel
theorem d_Re_number_1 : decode b_Re_number 1 = .ok (.istore_n 1, 1) := by decide +kernel
theorem d_Re_number_2 : decode b_Re_number 2 = .ok (.iconst 0, 1) := by decide +kernel
theorem d_Re_number_3 : decode b_Re_number 3 = .ok (.istore_n 2, 1) := by decide +kernel
theorem d_Re_number_4 : decode b_Re_number 4 = .ok (.iload_n 2, 1) := by decide +kernel
theorem d_Re_number_5 : decode b_Re_number 5 = .ok (.iconst 2, 1) := by decide +kernel
theorem d_Re_number_6 : decode b_Re_number 6 = .ok (.if_icmp .ge 50, 3) := by decide +kernel
theorem d_Re_number_9 : decode b_Re_number 9 = .ok (.aload_n 0, 1) := by decide +kernel
theorem d_Re_number_10 : decode b_Re_number 10 = .ok (.invokevirtual 32, 3) := by decide +kernel
theorem d_Re_number_13 : decode b_Re_number 13 = .ok (.bipush 48, 2) := by decide +kernel
theorem d_Re_number_15 : decode b_Re_number 15 = .ok (.if_icmp .lt 41, 3) := by decide +kernel
theorem d_Re_number_18 : decode b_Re_number 18 = .ok (.aload_n 0, 1) := by decide +kernel
theorem d_Re_number_19 : decode b_Re_number 19 = .ok (.invokevirtual 32, 3) := by decide +kernel
theorem d_Re_number_22 : decode b_Re_number 22 = .ok (.bipush 57, 2) := by decide +kernel
theorem d_Re_number_24 : decode b_Re_number 24 = .ok (.if_icmp .gt 32, 3) := by decide +kernel
theorem d_Re_number_27 : decode b_Re_number 27 = .ok (.bipush 10, 2) := by decide +kernel
theorem d_Re_number_29 : decode b_Re_number 29 = .ok (.iload_n 1, 1) := by decide +kernel
theorem d_Re_number_30 : decode b_Re_number 30 = .ok (.imul, 1) := by decide +kernel
theorem d_Re_number_31 : decode b_Re_number 31 = .ok (.aload_n 0, 1) := by decide +kernel
theorem d_Re_number_32 : decode b_Re_number 32 = .ok (.invokevirtual 32, 3) := by decide +kernel
theorem d_Re_number_35 : decode b_Re_number 35 = .ok (.iadd, 1) := by decide +kernel
theorem d_Re_number_36 : decode b_Re_number 36 = .ok (.bipush 48, 2) := by decide +kernel
theorem d_Re_number_38 : decode b_Re_number 38 = .ok (.isub, 1) := by decide +kernel
theorem d_Re_number_39 : decode b_Re_number 39 = .ok (.istore_n 1, 1) := by decide +kernel
theorem d_Re_number_40 : decode b_Re_number 40 = .ok (.aload_n 0, 1) := by decide +kernel
theorem d_Re_number_41 : decode b_Re_number 41 = .ok (.dup, 1) := by decide +kernel
theorem d_Re_number_42 : decode b_Re_number 42 = .ok (.getfield 20, 3) := by decide +kernel
theorem d_Re_number_45 : decode b_Re_number 45 = .ok (.iconst 1, 1) := by decide +kernel
theorem d_Re_number_46 : decode b_Re_number 46 = .ok (.iadd, 1) := by decide +kernel
theorem d_Re_number_47 : decode b_Re_number 47 = .ok (.putfield 20, 3) := by decide +kernel
theorem d_Re_number_50 : decode b_Re_number 50 = .ok (.iinc 2 1, 3) := by decide +kernel
theorem d_Re_number_53 : decode b_Re_number 53 = .ok (.goto (-49), 3) := by decide +kernel
theorem d_Re_number_56 : decode b_Re_number 56 = .ok (.iload_n 2, 1) := by decide +kernel
theorem d_Re_number_57 : decode b_Re_number 57 = .ok (.ifCond .ne 8, 3) := by decide +kernel
theorem d_Re_number_60 : decode b_Re_number 60 = .ok (.aload_n 0, 1) := by decide +kernel
theorem d_Re_number_61 : decode b_Re_number 61 = .ok (.iconst 1, 1) := by decide +kernel
theorem d_Re_number_62 : decode b_Re_number 62 = .ok (.putfield 24, 3) := by decide +kernel
theorem d_Re_number_65 : decode b_Re_number 65 = .ok (.iload_n 1, 1) := by decide +kernel
theorem d_Re_number_66 : decode b_Re_number 66 = .ok (.ireturn, 1) := by decide +kernel
theorem d_Re_oneOf_0 : decode b_Re_oneOf 0 = .ok (.iconst 0, 1) := by decide +kernel
theorem d_Re_oneOf_1 : decode b_Re_oneOf 1 = .ok (.istore_n 2, 1) := by decide +kernel
theorem d_Re_oneOf_2 : decode b_Re_oneOf 2 = .ok (.iload_n 2, 1) := by decide +kernel
theorem d_Re_oneOf_3 : decode b_Re_oneOf 3 = .ok (.aload_n 1, 1) := by decide +kernel
theorem d_Re_oneOf_4 : decode b_Re_oneOf 4 = .ok (.invokevirtual 85, 3) := by decide +kernel
theorem d_Re_oneOf_7 : decode b_Re_oneOf 7 = .ok (.if_icmp .ge 33, 3) := by decide +kernel
theorem d_Re_oneOf_10 : decode b_Re_oneOf 10 = .ok (.aload_n 1, 1) := by decide +kernel
theorem d_Re_oneOf_11 : decode b_Re_oneOf 11 = .ok (.iload_n 2, 1) := by decide +kernel
theorem d_Re_oneOf_12 : decode b_Re_oneOf 12 = .ok (.invokevirtual 90, 3) := by decide +kernel
theorem d_Re_oneOf_15 : decode b_Re_oneOf 15 = .ok (.aload_n 0, 1) := by decide +kernel
theorem d_Re_oneOf_16 : decode b_Re_oneOf 16 = .ok (.invokevirtual 32, 3) := by decide +kernel
theorem d_Re_oneOf_19 : decode b_Re_oneOf 19 = .ok (.if_icmp .ne 15, 3) := by decide +kernel
theorem d_Re_oneOf_22 : decode b_Re_oneOf 22 = .ok (.aload_n 0, 1) := by decide +kernel
theorem d_Re_oneOf_23 : decode b_Re_oneOf 23 = .ok (.dup, 1) := by decide +kernel
theorem d_Re_oneOf_24 : decode b_Re_oneOf 24 = .ok (.getfield 20, 3) := by decide +kernel
theorem d_Re_oneOf_27 : decode b_Re_oneOf 27 = .ok (.iconst 1, 1) := by decide +kernel
theorem d_Re_oneOf_28 : decode b_Re_oneOf 28 = .ok (.iadd, 1) := by decide +kernel
theorem d_Re_oneOf_29 : decode b_Re_oneOf 29 = .ok (.putfield 20, 3) := by decide +kernel
theorem d_Re_oneOf_32 : decode b_Re_oneOf 32 = .ok (.iload_n 2, 1) := by decide +kernel
theorem d_Re_oneOf_33 : decode b_Re_oneOf 33 = .ok (.ireturn, 1) := by decide +kernel
theorem d_Re_oneOf_34 : decode b_Re_oneOf 34 = .ok (.iinc 2 1, 3) := by decide +kernel
theorem d_Re_oneOf_37 : decode b_Re_oneOf 37 = .ok (.goto (-35), 3) := by decide +kernel
theorem d_Re_oneOf_40 : decode b_Re_oneOf 40 = .ok (.aload_n 0, 1) := by decide +kernel
theorem d_Re_oneOf_41 : decode b_Re_oneOf 41 = .ok (.iconst 1, 1) := by decide +kernel
theorem d_Re_oneOf_42 : decode b_Re_oneOf 42 = .ok (.putfield 24, 3) := by decide +kernel
theorem d_Re_oneOf_45 : decode b_Re_oneOf 45 = .ok (.iconst 0, 1) := by decide +kernel
theorem d_Re_oneOf_46 : decode b_Re_oneOf 46 = .ok (.ireturn, 1) := by decide +kernel
theorem d_Re_take_0 : decode b_Re_take 0 = .ok (.iconst 0, 1) := by decide +kernel
theorem d_Re_take_1 : decode b_Re_take 1 = .ok (.istore_n 2, 1) := by decide +kernel
theorem d_Re_take_2 : decode b_Re_take 2 = .ok (.iload_n 2, 1) := by decide +kernel
theorem d_Re_take_3 : decode b_Re_take 3 = .ok (.aload_n 1, 1) := by decide +kernel
theorem d_Re_take_4 : decode b_Re_take 4 = .ok (.invokevirtual 85, 3) := by decide +kernel
theorem d_Re_take_7 : decode b_Re_take 7 = .ok (.if_icmp .ge 46, 3) := by decide +kernel
theorem d_Re_take_10 : decode b_Re_take 10 = .ok (.aload_n 0, 1) := by decide +kernel
theorem d_Re_take_11 : decode b_Re_take 11 = .ok (.getfield 24, 3) := by decide +kernel
theorem d_Re_take_14 : decode b_Re_take 14 = .ok (.ifCond .ne 39, 3) := by decide +kernel
theorem d_Re_take_17 : decode b_Re_take 17 = .ok (.aload_n 1, 1) := by decide +kernel
theorem d_Re_take_18 : decode b_Re_take 18 = .ok (.iload_n 2, 1) := by decide +kernel
theorem d_Re_take_19 : decode b_Re_take 19 = .ok (.invokevirtual 90, 3) := by decide +kernel
theorem d_Re_take_22 : decode b_Re_take 22 = .ok (.aload_n 0, 1) := by decide +kernel
theorem d_Re_take_23 : decode b_Re_take 23 = .ok (.invokevirtual 32, 3) := by decide +kernel
theorem d_Re_take_26 : decode b_Re_take 26 = .ok (.if_icmp .ne 16, 3) := by decide +kernel
theorem d_Re_take_29 : decode b_Re_take 29 = .ok (.aload_n 0, 1) := by decide +kernel
theorem d_Re_take_30 : decode b_Re_take 30 = .ok (.dup, 1) := by decide +kernel
theorem d_Re_take_31 : decode b_Re_take 31 = .ok (.getfield 20, 3) := by decide +kernel
theorem d_Re_take_34 : decode b_Re_take 34 = .ok (.iconst 1, 1) := by decide +kernel
theorem d_Re_take_35 : decode b_Re_take 35 = .ok (.iadd, 1) := by decide +kernel
theorem d_Re_take_36 : decode b_Re_take 36 = .ok (.putfield 20, 3) := by decide +kernel
theorem d_Re_take_39 : decode b_Re_take 39 = .ok (.goto 8, 3) := by decide +kernel
theorem d_Re_take_42 : decode b_Re_take 42 = .ok (.aload_n 0, 1) := by decide +kernel
theorem d_Re_take_43 : decode b_Re_take 43 = .ok (.iconst 1, 1) := by decide +kernel
theorem d_Re_take_44 : decode b_Re_take 44 = .ok (.putfield 24, 3) := by decide +kernel
theorem d_Re_take_47 : decode b_Re_take 47 = .ok (.iinc 2 1, 3) := by decide +kernel
theorem d_Re_take_50 : decode b_Re_take 50 = .ok (.goto (-48), 3) := by decide +kernel
theorem d_Re_take_53 : decode b_Re_take 53 = .ok (.return_, 1) := by decide +kernel
theorem d_Re_next_0 : decode b_Re_next 0 = .ok (.aload_n 0, 1) := by decide +kernel
theorem d_Re_next_1 : decode b_Re_next 1 = .ok (.getfield 24, 3) := by decide +kernel
theorem d_Re_next_4 : decode b_Re_next 4 = .ok (.ifCond .ne 35, 3) := by decide +kernel
theorem d_Re_next_7 : decode b_Re_next 7 = .ok (.aload_n 0, 1) := by decide +kernel
theorem d_Re_next_8 : decode b_Re_next 8 = .ok (.getfield 20, 3) := by decide +kernel
theorem d_Re_next_11 : decode b_Re_next 11 = .ok (.aload_n 0, 1) := by decide +kernel
theorem d_Re_next_12 : decode b_Re_next 12 = .ok (.getfield 36, 3) := by decide +kernel
theorem d_Re_next_15 : decode b_Re_next 15 = .ok (.if_icmp .ge 24, 3) := by decide +kernel
theorem d_Re_next_18 : decode b_Re_next 18 = .ok (.aload_n 0, 1) := by decide +kernel
theorem d_Re_next_19 : decode b_Re_next 19 = .ok (.getfield 20, 3) := by decide +kernel
theorem d_Re_next_22 : decode b_Re_next 22 = .ok (.bipush 100, 2) := by decide +kernel
theorem d_Re_next_24 : decode b_Re_next 24 = .ok (.if_icmp .ge 15, 3) := by decide +kernel
theorem d_Re_next_27 : decode b_Re_next 27 = .ok (.aload_n 0, 1) := by decide +kernel
theorem d_Re_next_28 : decode b_Re_next 28 = .ok (.getfield 9, 3) := by decide +kernel
theorem d_Re_next_31 : decode b_Re_next 31 = .ok (.aload_n 0, 1) := by decide +kernel
theorem d_Re_next_32 : decode b_Re_next 32 = .ok (.getfield 20, 3) := by decide +kernel
theorem d_Re_next_35 : decode b_Re_next 35 = .ok (.baload, 1) := by decide +kernel
theorem d_Re_next_36 : decode b_Re_next 36 = .ok (.goto 4, 3) := by decide +kernel
theorem d_Re_next_39 : decode b_Re_next 39 = .ok (.iconst (-1), 1) := by decide +kernel
theorem d_Re_next_40 : decode b_Re_next 40 = .ok (.ireturn, 1) := by decide +kernel
theorem d_Ro_init_0 : decode b_Ro_init 0 = .ok (.aload_n 0, 1) := by decide +kernel
theorem d_Ro_init_1 : decode b_Ro_init 1 = .ok (.invokespecial 3, 3) := by decide +kernel
theorem d_Ro_init_4 : decode b_Ro_init 4 = .ok (.aload_n 0, 1) := by decide +kernel
theorem d_Ro_init_5 : decode b_Ro_init 5 = .ok (.bipush 36, 2) := by decide +kernel
theorem d_Ro_init_7 : decode b_Ro_init 7 = .ok (.newarray .int, 2) := by decide +kernel
theorem d_Ro_init_9 : decode b_Ro_init 9 = .ok (.putfield 9, 3) := by decide +kernel
theorem d_Ro_init_12 : decode b_Ro_init 12 = .ok (.aload_n 0, 1) := by decide +kernel
theorem d_Ro_init_13 : decode b_Ro_init 13 = .ok (.bipush 6, 2) := by decide +kernel
theorem d_Ro_init_15 : decode b_Ro_init 15 = .ok (.newarray .int, 2) := by decide +kernel
theorem d_Ro_init_17 : decode b_Ro_init 17 = .ok (.putfield 15, 3) := by decide +kernel
theorem d_Ro_init_20 : decode b_Ro_init 20 = .ok (.aload_n 0, 1) := by decide +kernel
theorem d_Ro_init_21 : decode b_Ro_init 21 = .ok (.bipush 6, 2) := by decide +kernel
theorem d_Ro_init_23 : decode b_Ro_init 23 = .ok (.newarray .int, 2) := by decide +kernel
theorem d_Ro_init_25 : decode b_Ro_init 25 = .ok (.putfield 18, 3) := by decide +kernel
theorem d_Ro_init_28 : decode b_Ro_init 28 = .ok (.aload_n 0, 1) := by decide +kernel
theorem d_Ro_init_29 : decode b_Ro_init 29 = .ok (.bipush 6, 2) := by decide +kernel
theorem d_Ro_init_31 : decode b_Ro_init 31 = .ok (.newarray .int, 2) := by decide +kernel
theorem d_Ro_init_33 : decode b_Ro_init 33 = .ok (.putfield 21, 3) := by decide +kernel
theorem d_Ro_init_36 : decode b_Ro_init 36 = .ok (.return_, 1) := by decide +kernel
theorem d_Ro_walk_0 : decode b_Ro_walk 0 = .ok (.aload_n 0, 1) := by decide +kernel
theorem d_Ro_walk_1 : decode b_Ro_walk 1 = .ok (.aload_n 1, 1) := by decide +kernel
theorem d_Ro_walk_2 : decode b_Ro_walk 2 = .ok (.invokevirtual 24, 3) := by decide +kernel
theorem d_Ro_walk_5 : decode b_Ro_walk 5 = .ok (.aload_n 0, 1) := by decide +kernel
theorem d_Ro_walk_6 : decode b_Ro_walk 6 = .ok (.aload_n 1, 1) := by decide +kernel
theorem d_Ro_walk_7 : decode b_Ro_walk 7 = .ok (.invokevirtual 28, 3) := by decide +kernel
theorem d_Ro_walk_10 : decode b_Ro_walk 10 = .ok (.aload_n 0, 1) := by decide +kernel
theorem d_Ro_walk_11 : decode b_Ro_walk 11 = .ok (.ldc 31, 2) := by decide +kernel
theorem d_Ro_walk_13 : decode b_Ro_walk 13 = .ok (.putfield 32, 3) := by decide +kernel
theorem d_Ro_walk_16 : decode b_Ro_walk 16 = .ok (.aload_n 0, 1) := by decide +kernel
theorem d_Ro_walk_17 : decode b_Ro_walk 17 = .ok (.ldc 31, 2) := by decide +kernel
theorem d_Ro_walk_19 : decode b_Ro_walk 19 = .ok (.putfield 36, 3) := by decide +kernel
theorem d_Ro_walk_22 : decode b_Ro_walk 22 = .ok (.aload_n 0, 1) := by decide +kernel
theorem d_Ro_walk_23 : decode b_Ro_walk 23 = .ok (.iconst 0, 1) := by decide +kernel
theorem d_Ro_walk_24 : decode b_Ro_walk 24 = .ok (.putfield 39, 3) := by decide +kernel
theorem d_Ro_walk_27 : decode b_Ro_walk 27 = .ok (.aload_n 0, 1) := by decide +kernel
theorem d_Ro_walk_28 : decode b_Ro_walk 28 = .ok (.iconst 0, 1) := by decide +kernel
theorem d_Ro_walk_29 : decode b_Ro_walk 29 = .ok (.putfield 42, 3) := by decide +kernel
theorem d_Ro_walk_32 : decode b_Ro_walk 32 = .ok (.aload_n 0, 1) := by decide +kernel
theorem d_Ro_walk_33 : decode b_Ro_walk 33 = .ok (.lconst 0, 1) := by decide +kernel
theorem d_Ro_walk_34 : decode b_Ro_walk 34 = .ok (.putfield 45, 3) := by decide +kernel
theorem d_Ro_walk_37 : decode b_Ro_walk 37 = .ok (.iconst 1, 1) := by decide +kernel
theorem d_Ro_walk_38 : decode b_Ro_walk 38 = .ok (.istore_n 3, 1) := by decide +kernel
theorem d_Ro_walk_39 : decode b_Ro_walk 39 = .ok (.sipush 720, 3) := by decide +kernel
theorem d_Ro_walk_42 : decode b_Ro_walk 42 = .ok (.istore 4, 2) := by decide +kernel
theorem d_Ro_walk_44 : decode b_Ro_walk 44 = .ok (.iload 4, 2) := by decide +kernel
theorem d_Ro_walk_46 : decode b_Ro_walk 46 = .ok (.ifCond .le 23, 3) := by decide +kernel
theorem d_Ro_walk_49 : decode b_Ro_walk 49 = .ok (.iload_n 3, 1) := by decide +kernel
theorem d_Ro_walk_50 : decode b_Ro_walk 50 = .ok (.ifCond .eq 19, 3) := by decide +kernel
theorem d_Ro_walk_53 : decode b_Ro_walk 53 = .ok (.aload_n 0, 1) := by decide +kernel
theorem d_Ro_walk_54 : decode b_Ro_walk 54 = .ok (.iload_n 2, 1) := by decide +kernel
theorem d_Ro_walk_55 : decode b_Ro_walk 55 = .ok (.invokevirtual 49, 3) := by decide +kernel
theorem d_Ro_walk_58 : decode b_Ro_walk 58 = .ok (.aload_n 0, 1) := by decide +kernel
theorem d_Ro_walk_59 : decode b_Ro_walk 59 = .ok (.invokevirtual 53, 3) := by decide +kernel
theorem d_Ro_walk_62 : decode b_Ro_walk 62 = .ok (.istore_n 3, 1) := by decide +kernel
theorem d_Ro_walk_63 : decode b_Ro_walk 63 = .ok (.iinc 4 (-1), 3) := by decide +kernel
theorem d_Ro_walk_66 : decode b_Ro_walk 66 = .ok (.goto (-22), 3) := by decide +kernel
theorem d_Ro_walk_69 : decode b_Ro_walk 69 = .ok (.return_, 1) := by decide +kernel
theorem d_Ro_start_0 : decode b_Ro_start 0 = .ok (.aload_n 0, 1) := by decide +kernel
theorem d_Ro_start_1 : decode b_Ro_start 1 = .ok (.iconst 0, 1) := by decide +kernel
theorem d_Ro_start_2 : decode b_Ro_start 2 = .ok (.putfield 57, 3) := by decide +kernel
theorem d_Ro_start_5 : decode b_Ro_start 5 = .ok (.iconst 0, 1) := by decide +kernel
theorem d_Ro_start_6 : decode b_Ro_start 6 = .ok (.istore_n 2, 1) := by decide +kernel
theorem d_Ro_start_7 : decode b_Ro_start 7 = .ok (.iload_n 2, 1) := by decide +kernel
theorem d_Ro_start_8 : decode b_Ro_start 8 = .ok (.aload_n 1, 1) := by decide +kernel
theorem d_Ro_start_9 : decode b_Ro_start 9 = .ok (.getfield 60, 3) := by decide +kernel
theorem d_Ro_start_12 : decode b_Ro_start 12 = .ok (.if_icmp .ge 37, 3) := by decide +kernel
theorem d_Ro_start_15 : decode b_Ro_start 15 = .ok (.aload_n 1, 1) := by decide +kernel
theorem d_Ro_start_16 : decode b_Ro_start 16 = .ok (.iload_n 2, 1) := by decide +kernel
theorem d_Ro_start_17 : decode b_Ro_start 17 = .ok (.invokevirtual 65, 3) := by decide +kernel
theorem d_Ro_start_20 : decode b_Ro_start 20 = .ok (.ifCond .eq 23, 3) := by decide +kernel
theorem d_Ro_start_23 : decode b_Ro_start 23 = .ok (.aload_n 0, 1) := by decide +kernel
theorem d_Ro_start_24 : decode b_Ro_start 24 = .ok (.getfield 15, 3) := by decide +kernel
theorem d_Ro_start_27 : decode b_Ro_start 27 = .ok (.aload_n 0, 1) := by decide +kernel
theorem d_Ro_start_28 : decode b_Ro_start 28 = .ok (.getfield 57, 3) := by decide +kernel
theorem d_Ro_start_31 : decode b_Ro_start 31 = .ok (.iload_n 2, 1) := by decide +kernel
theorem d_Ro_start_32 : decode b_Ro_start 32 = .ok (.iastore, 1) := by decide +kernel
theorem d_Ro_start_33 : decode b_Ro_start 33 = .ok (.aload_n 0, 1) := by decide +kernel
theorem d_Ro_start_34 : decode b_Ro_start 34 = .ok (.dup, 1) := by decide +kernel
theorem d_Ro_start_35 : decode b_Ro_start 35 = .ok (.getfield 57, 3) := by decide +kernel
theorem d_Ro_start_38 : decode b_Ro_start 38 = .ok (.iconst 1, 1) := by decide +kernel
theorem d_Ro_start_39 : decode b_Ro_start 39 = .ok (.iadd, 1) := by decide +kernel
theorem d_Ro_start_40 : decode b_Ro_start 40 = .ok (.putfield 57, 3) := by decide +kernel
theorem d_Ro_start_43 : decode b_Ro_start 43 = .ok (.iinc 2 1, 3) := by decide +kernel
theorem d_Ro_start_46 : decode b_Ro_start 46 = .ok (.goto (-39), 3) := by decide +kernel
theorem d_Ro_start_49 : decode b_Ro_start 49 = .ok (.return_, 1) := by decide +kernel
theorem d_Ro_weigh_0 : decode b_Ro_weigh 0 = .ok (.iconst 0, 1) := by decide +kernel
theorem d_Ro_weigh_1 : decode b_Ro_weigh 1 = .ok (.istore_n 2, 1) := by decide +kernel
theorem d_Ro_weigh_2 : decode b_Ro_weigh 2 = .ok (.iload_n 2, 1) := by decide +kernel
theorem d_Ro_weigh_3 : decode b_Ro_weigh 3 = .ok (.aload_n 1, 1) := by decide +kernel
theorem d_Ro_weigh_4 : decode b_Ro_weigh 4 = .ok (.getfield 60, 3) := by decide +kernel
theorem d_Ro_weigh_7 : decode b_Ro_weigh 7 = .ok (.if_icmp .ge 82, 3) := by decide +kernel
theorem d_Ro_weigh_10 : decode b_Ro_weigh 10 = .ok (.iconst 0, 1) := by decide +kernel
theorem d_Ro_weigh_11 : decode b_Ro_weigh 11 = .ok (.istore_n 3, 1) := by decide +kernel
theorem d_Ro_weigh_12 : decode b_Ro_weigh 12 = .ok (.iconst 0, 1) := by decide +kernel
theorem d_Ro_weigh_13 : decode b_Ro_weigh 13 = .ok (.istore 4, 2) := by decide +kernel
theorem d_Ro_weigh_15 : decode b_Ro_weigh 15 = .ok (.iconst 0, 1) := by decide +kernel
theorem d_Ro_weigh_16 : decode b_Ro_weigh 16 = .ok (.istore 5, 2) := by decide +kernel
theorem d_Ro_weigh_18 : decode b_Ro_weigh 18 = .ok (.iload 5, 2) := by decide +kernel
theorem d_Ro_weigh_20 : decode b_Ro_weigh 20 = .ok (.bipush 12, 2) := by decide +kernel
theorem d_Ro_weigh_22 : decode b_Ro_weigh 22 = .ok (.if_icmp .ge 61, 3) := by decide +kernel
theorem d_Ro_weigh_25 : decode b_Ro_weigh 25 = .ok (.iload 4, 2) := by decide +kernel
theorem d_Ro_weigh_27 : decode b_Ro_weigh 27 = .ok (.bipush 6, 2) := by decide +kernel
theorem d_Ro_weigh_29 : decode b_Ro_weigh 29 = .ok (.if_icmp .ge 54, 3) := by decide +kernel
theorem d_Ro_weigh_32 : decode b_Ro_weigh 32 = .ok (.aload_n 1, 1) := by decide +kernel
theorem d_Ro_weigh_33 : decode b_Ro_weigh 33 = .ok (.aload_n 1, 1) := by decide +kernel
theorem d_Ro_weigh_34 : decode b_Ro_weigh 34 = .ok (.getfield 69, 3) := by decide +kernel
theorem d_Ro_weigh_37 : decode b_Ro_weigh 37 = .ok (.iload 5, 2) := by decide +kernel
theorem d_Ro_weigh_39 : decode b_Ro_weigh 39 = .ok (.iadd, 1) := by decide +kernel
theorem d_Ro_weigh_40 : decode b_Ro_weigh 40 = .ok (.invokevirtual 72, 3) := by decide +kernel
theorem d_Ro_weigh_43 : decode b_Ro_weigh 43 = .ok (.ifCond .ne 19, 3) := by decide +kernel
theorem d_Ro_weigh_46 : decode b_Ro_weigh 46 = .ok (.aload_n 0, 1) := by decide +kernel
theorem d_Ro_weigh_47 : decode b_Ro_weigh 47 = .ok (.getfield 9, 3) := by decide +kernel
theorem d_Ro_weigh_50 : decode b_Ro_weigh 50 = .ok (.bipush 6, 2) := by decide +kernel
theorem d_Ro_weigh_52 : decode b_Ro_weigh 52 = .ok (.iload_n 2, 1) := by decide +kernel
theorem d_Ro_weigh_53 : decode b_Ro_weigh 53 = .ok (.imul, 1) := by decide +kernel
theorem d_Ro_weigh_54 : decode b_Ro_weigh 54 = .ok (.iload 4, 2) := by decide +kernel
theorem d_Ro_weigh_56 : decode b_Ro_weigh 56 = .ok (.iadd, 1) := by decide +kernel
theorem d_Ro_weigh_57 : decode b_Ro_weigh 57 = .ok (.iload_n 3, 1) := by decide +kernel
theorem d_Ro_weigh_58 : decode b_Ro_weigh 58 = .ok (.iastore, 1) := by decide +kernel
theorem d_Ro_weigh_59 : decode b_Ro_weigh 59 = .ok (.iinc 4 1, 3) := by decide +kernel
theorem d_Ro_weigh_62 : decode b_Ro_weigh 62 = .ok (.iload_n 3, 1) := by decide +kernel
theorem d_Ro_weigh_63 : decode b_Ro_weigh 63 = .ok (.aload_n 1, 1) := by decide +kernel
theorem d_Ro_weigh_64 : decode b_Ro_weigh 64 = .ok (.aload_n 1, 1) := by decide +kernel
theorem d_Ro_weigh_65 : decode b_Ro_weigh 65 = .ok (.getfield 75, 3) := by decide +kernel
theorem d_Ro_weigh_68 : decode b_Ro_weigh 68 = .ok (.iload_n 2, 1) := by decide +kernel
theorem d_Ro_weigh_69 : decode b_Ro_weigh 69 = .ok (.aaload, 1) := by decide +kernel
theorem d_Ro_weigh_70 : decode b_Ro_weigh 70 = .ok (.iload 5, 2) := by decide +kernel
theorem d_Ro_weigh_72 : decode b_Ro_weigh 72 = .ok (.invokevirtual 79, 3) := by decide +kernel
theorem d_Ro_weigh_75 : decode b_Ro_weigh 75 = .ok (.iadd, 1) := by decide +kernel
theorem d_Ro_weigh_76 : decode b_Ro_weigh 76 = .ok (.istore_n 3, 1) := by decide +kernel
theorem d_Ro_weigh_77 : decode b_Ro_weigh 77 = .ok (.iinc 5 1, 3) := by decide +kernel
theorem d_Ro_weigh_80 : decode b_Ro_weigh 80 = .ok (.goto (-62), 3) := by decide +kernel
theorem d_Ro_weigh_83 : decode b_Ro_weigh 83 = .ok (.iinc 2 1, 3) := by decide +kernel
theorem d_Ro_weigh_86 : decode b_Ro_weigh 86 = .ok (.goto (-84), 3) := by decide +kernel
theorem d_Ro_weigh_89 : decode b_Ro_weigh 89 = .ok (.return_, 1) := by decide +kernel
theorem d_Ro_look_0 : decode b_Ro_look 0 = .ok (.iconst 0, 1) := by decide +kernel
theorem d_Ro_look_1 : decode b_Ro_look 1 = .ok (.istore_n 2, 1) := by decide +kernel
theorem d_Ro_look_2 : decode b_Ro_look 2 = .ok (.iconst 0, 1) := by decide +kernel
theorem d_Ro_look_3 : decode b_Ro_look 3 = .ok (.istore_n 3, 1) := by decide +kernel
theorem d_Ro_look_4 : decode b_Ro_look 4 = .ok (.iconst 0, 1) := by decide +kernel
theorem d_Ro_look_5 : decode b_Ro_look 5 = .ok (.istore 4, 2) := by decide +kernel
theorem d_Ro_look_7 : decode b_Ro_look 7 = .ok (.iload 4, 2) := by decide +kernel
theorem d_Ro_look_9 : decode b_Ro_look 9 = .ok (.aload_n 0, 1) := by decide +kernel
theorem d_Ro_look_10 : decode b_Ro_look 10 = .ok (.getfield 57, 3) := by decide +kernel
theorem d_Ro_look_13 : decode b_Ro_look 13 = .ok (.if_icmp .ge 36, 3) := by decide +kernel
theorem d_Ro_look_16 : decode b_Ro_look 16 = .ok (.aload_n 0, 1) := by decide +kernel
theorem d_Ro_look_17 : decode b_Ro_look 17 = .ok (.aload_n 0, 1) := by decide +kernel
theorem d_Ro_look_18 : decode b_Ro_look 18 = .ok (.getfield 15, 3) := by decide +kernel
theorem d_Ro_look_21 : decode b_Ro_look 21 = .ok (.iload 4, 2) := by decide +kernel
theorem d_Ro_look_23 : decode b_Ro_look 23 = .ok (.iaload, 1) := by decide +kernel
theorem d_Ro_look_24 : decode b_Ro_look 24 = .ok (.iload 4, 2) := by decide +kernel
theorem d_Ro_look_26 : decode b_Ro_look 26 = .ok (.invokevirtual 83, 3) := by decide +kernel
theorem d_Ro_look_29 : decode b_Ro_look 29 = .ok (.istore 5, 2) := by decide +kernel
theorem d_Ro_look_31 : decode b_Ro_look 31 = .ok (.iload_n 2, 1) := by decide +kernel
theorem d_Ro_look_32 : decode b_Ro_look 32 = .ok (.iload 5, 2) := by decide +kernel
theorem d_Ro_look_34 : decode b_Ro_look 34 = .ok (.iadd, 1) := by decide +kernel
theorem d_Ro_look_35 : decode b_Ro_look 35 = .ok (.istore_n 2, 1) := by decide +kernel
theorem d_Ro_look_36 : decode b_Ro_look 36 = .ok (.iload_n 3, 1) := by decide +kernel
theorem d_Ro_look_37 : decode b_Ro_look 37 = .ok (.iload 5, 2) := by decide +kernel
theorem d_Ro_look_39 : decode b_Ro_look 39 = .ok (.invokestatic 87, 3) := by decide +kernel
theorem d_Ro_look_42 : decode b_Ro_look 42 = .ok (.istore_n 3, 1) := by decide +kernel
theorem d_Ro_look_43 : decode b_Ro_look 43 = .ok (.iinc 4 1, 3) := by decide +kernel
theorem d_Ro_look_46 : decode b_Ro_look 46 = .ok (.goto (-39), 3) := by decide +kernel
theorem d_Ro_look_49 : decode b_Ro_look 49 = .ok (.aload_n 0, 1) := by decide +kernel
theorem d_Ro_look_50 : decode b_Ro_look 50 = .ok (.dup, 1) := by decide +kernel
theorem d_Ro_look_51 : decode b_Ro_look 51 = .ok (.getfield 39, 3) := by decide +kernel
theorem d_Ro_look_54 : decode b_Ro_look 54 = .ok (.iconst 1, 1) := by decide +kernel
theorem d_Ro_look_55 : decode b_Ro_look 55 = .ok (.iadd, 1) := by decide +kernel
theorem d_Ro_look_56 : decode b_Ro_look 56 = .ok (.putfield 39, 3) := by decide +kernel
theorem d_Ro_look_59 : decode b_Ro_look 59 = .ok (.aload_n 0, 1) := by decide +kernel
theorem d_Ro_look_60 : decode b_Ro_look 60 = .ok (.dup, 1) := by decide +kernel
theorem d_Ro_look_61 : decode b_Ro_look 61 = .ok (.getfield 45, 3) := by decide +kernel
theorem d_Ro_look_64 : decode b_Ro_look 64 = .ok (.iload_n 2, 1) := by decide +kernel
theorem d_Ro_look_65 : decode b_Ro_look 65 = .ok (.i2l, 1) := by decide +kernel
theorem d_Ro_look_66 : decode b_Ro_look 66 = .ok (.ladd, 1) := by decide +kernel
theorem d_Ro_look_67 : decode b_Ro_look 67 = .ok (.putfield 45, 3) := by decide +kernel
theorem d_Ro_look_70 : decode b_Ro_look 70 = .ok (.iload_n 2, 1) := by decide +kernel
theorem d_Ro_look_71 : decode b_Ro_look 71 = .ok (.iload_n 1, 1) := by decide +kernel
theorem d_Ro_look_72 : decode b_Ro_look 72 = .ok (.if_icmp .gt 13, 3) := by decide +kernel
theorem d_Ro_look_75 : decode b_Ro_look 75 = .ok (.aload_n 0, 1) := by decide +kernel
theorem d_Ro_look_76 : decode b_Ro_look 76 = .ok (.dup, 1) := by decide +kernel
theorem d_Ro_look_77 : decode b_Ro_look 77 = .ok (.getfield 42, 3) := by decide +kernel
theorem d_Ro_look_80 : decode b_Ro_look 80 = .ok (.iconst 1, 1) := by decide +kernel
theorem d_Ro_look_81 : decode b_Ro_look 81 = .ok (.iadd, 1) := by decide +kernel
theorem d_Ro_look_82 : decode b_Ro_look 82 = .ok (.putfield 42, 3) := by decide +kernel
theorem d_Ro_look_85 : decode b_Ro_look 85 = .ok (.iload_n 2, 1) := by decide +kernel
theorem d_Ro_look_86 : decode b_Ro_look 86 = .ok (.aload_n 0, 1) := by decide +kernel
theorem d_Ro_look_87 : decode b_Ro_look 87 = .ok (.getfield 32, 3) := by decide +kernel
theorem d_Ro_look_90 : decode b_Ro_look 90 = .ok (.if_icmp .ge 25, 3) := by decide +kernel
theorem d_Ro_look_93 : decode b_Ro_look 93 = .ok (.aload_n 0, 1) := by decide +kernel
theorem d_Ro_look_94 : decode b_Ro_look 94 = .ok (.iload_n 2, 1) := by decide +kernel
theorem d_Ro_look_95 : decode b_Ro_look 95 = .ok (.putfield 32, 3) := by decide +kernel
theorem d_Ro_look_98 : decode b_Ro_look 98 = .ok (.aload_n 0, 1) := by decide +kernel
theorem d_Ro_look_99 : decode b_Ro_look 99 = .ok (.getfield 15, 3) := by decide +kernel
theorem d_Ro_look_102 : decode b_Ro_look 102 = .ok (.iconst 0, 1) := by decide +kernel
theorem d_Ro_look_103 : decode b_Ro_look 103 = .ok (.aload_n 0, 1) := by decide +kernel
theorem d_Ro_look_104 : decode b_Ro_look 104 = .ok (.getfield 18, 3) := by decide +kernel
theorem d_Ro_look_107 : decode b_Ro_look 107 = .ok (.iconst 0, 1) := by decide +kernel
theorem d_Ro_look_108 : decode b_Ro_look 108 = .ok (.aload_n 0, 1) := by decide +kernel
theorem d_Ro_look_109 : decode b_Ro_look 109 = .ok (.getfield 57, 3) := by decide +kernel
theorem d_Ro_look_112 : decode b_Ro_look 112 = .ok (.invokestatic 92, 3) := by decide +kernel
theorem d_Ro_look_115 : decode b_Ro_look 115 = .ok (.iload_n 3, 1) := by decide +kernel
theorem d_Ro_look_116 : decode b_Ro_look 116 = .ok (.aload_n 0, 1) := by decide +kernel
theorem d_Ro_look_117 : decode b_Ro_look 117 = .ok (.getfield 36, 3) := by decide +kernel
theorem d_Ro_look_120 : decode b_Ro_look 120 = .ok (.if_icmp .ge 25, 3) := by decide +kernel
theorem d_Ro_look_123 : decode b_Ro_look 123 = .ok (.aload_n 0, 1) := by decide +kernel
theorem d_Ro_look_124 : decode b_Ro_look 124 = .ok (.iload_n 3, 1) := by decide +kernel
theorem d_Ro_look_125 : decode b_Ro_look 125 = .ok (.putfield 36, 3) := by decide +kernel
theorem d_Ro_look_128 : decode b_Ro_look 128 = .ok (.aload_n 0, 1) := by decide +kernel
theorem d_Ro_look_129 : decode b_Ro_look 129 = .ok (.getfield 15, 3) := by decide +kernel
theorem d_Ro_look_132 : decode b_Ro_look 132 = .ok (.iconst 0, 1) := by decide +kernel
theorem d_Ro_look_133 : decode b_Ro_look 133 = .ok (.aload_n 0, 1) := by decide +kernel
theorem d_Ro_look_134 : decode b_Ro_look 134 = .ok (.getfield 21, 3) := by decide +kernel
theorem d_Ro_look_137 : decode b_Ro_look 137 = .ok (.iconst 0, 1) := by decide +kernel
theorem d_Ro_look_138 : decode b_Ro_look 138 = .ok (.aload_n 0, 1) := by decide +kernel
theorem d_Ro_look_139 : decode b_Ro_look 139 = .ok (.getfield 57, 3) := by decide +kernel
theorem d_Ro_look_142 : decode b_Ro_look 142 = .ok (.invokestatic 92, 3) := by decide +kernel
theorem d_Ro_look_145 : decode b_Ro_look 145 = .ok (.return_, 1) := by decide +kernel
theorem d_Ro_hurtsAt_0 : decode b_Ro_hurtsAt 0 = .ok (.bipush 6, 2) := by decide +kernel
theorem d_Ro_hurtsAt_2 : decode b_Ro_hurtsAt 2 = .ok (.iload_n 1, 1) := by decide +kernel
theorem d_Ro_hurtsAt_3 : decode b_Ro_hurtsAt 3 = .ok (.imul, 1) := by decide +kernel
theorem d_Ro_hurtsAt_4 : decode b_Ro_hurtsAt 4 = .ok (.iload_n 2, 1) := by decide +kernel
theorem d_Ro_hurtsAt_5 : decode b_Ro_hurtsAt 5 = .ok (.iadd, 1) := by decide +kernel
theorem d_Ro_hurtsAt_6 : decode b_Ro_hurtsAt 6 = .ok (.istore_n 3, 1) := by decide +kernel
theorem d_Ro_hurtsAt_7 : decode b_Ro_hurtsAt 7 = .ok (.iload_n 3, 1) := by decide +kernel
theorem d_Ro_hurtsAt_8 : decode b_Ro_hurtsAt 8 = .ok (.ifCond .lt 21, 3) := by decide +kernel
theorem d_Ro_hurtsAt_11 : decode b_Ro_hurtsAt 11 = .ok (.iload_n 3, 1) := by decide +kernel
theorem d_Ro_hurtsAt_12 : decode b_Ro_hurtsAt 12 = .ok (.aload_n 0, 1) := by decide +kernel
theorem d_Ro_hurtsAt_13 : decode b_Ro_hurtsAt 13 = .ok (.getfield 9, 3) := by decide +kernel
theorem d_Ro_hurtsAt_16 : decode b_Ro_hurtsAt 16 = .ok (.arraylength, 1) := by decide +kernel
theorem d_Ro_hurtsAt_17 : decode b_Ro_hurtsAt 17 = .ok (.if_icmp .ge 12, 3) := by decide +kernel
theorem d_Ro_hurtsAt_20 : decode b_Ro_hurtsAt 20 = .ok (.aload_n 0, 1) := by decide +kernel
theorem d_Ro_hurtsAt_21 : decode b_Ro_hurtsAt 21 = .ok (.getfield 9, 3) := by decide +kernel
theorem d_Ro_hurtsAt_24 : decode b_Ro_hurtsAt 24 = .ok (.iload_n 3, 1) := by decide +kernel
theorem d_Ro_hurtsAt_25 : decode b_Ro_hurtsAt 25 = .ok (.iaload, 1) := by decide +kernel
theorem d_Ro_hurtsAt_26 : decode b_Ro_hurtsAt 26 = .ok (.goto 4, 3) := by decide +kernel
theorem d_Ro_hurtsAt_29 : decode b_Ro_hurtsAt 29 = .ok (.iconst 0, 1) := by decide +kernel
theorem d_Ro_hurtsAt_30 : decode b_Ro_hurtsAt 30 = .ok (.ireturn, 1) := by decide +kernel
theorem d_Ro_goToNext_0 : decode b_Ro_goToNext 0 = .ok (.aload_n 0, 1) := by decide +kernel
theorem d_Ro_goToNext_1 : decode b_Ro_goToNext 1 = .ok (.getfield 57, 3) := by decide +kernel
theorem d_Ro_goToNext_4 : decode b_Ro_goToNext 4 = .ok (.iconst 2, 1) := by decide +kernel
theorem d_Ro_goToNext_5 : decode b_Ro_goToNext 5 = .ok (.isub, 1) := by decide +kernel
theorem d_Ro_goToNext_6 : decode b_Ro_goToNext 6 = .ok (.istore_n 1, 1) := by decide +kernel
theorem d_Ro_goToNext_7 : decode b_Ro_goToNext 7 = .ok (.iload_n 1, 1) := by decide +kernel
theorem d_Ro_goToNext_8 : decode b_Ro_goToNext 8 = .ok (.ifCond .lt 26, 3) := by decide +kernel
theorem d_Ro_goToNext_11 : decode b_Ro_goToNext 11 = .ok (.aload_n 0, 1) := by decide +kernel
theorem d_Ro_goToNext_12 : decode b_Ro_goToNext 12 = .ok (.getfield 15, 3) := by decide +kernel
theorem d_Ro_goToNext_15 : decode b_Ro_goToNext 15 = .ok (.iload_n 1, 1) := by decide +kernel
theorem d_Ro_goToNext_16 : decode b_Ro_goToNext 16 = .ok (.iaload, 1) := by decide +kernel
theorem d_Ro_goToNext_17 : decode b_Ro_goToNext 17 = .ok (.aload_n 0, 1) := by decide +kernel
theorem d_Ro_goToNext_18 : decode b_Ro_goToNext 18 = .ok (.getfield 15, 3) := by decide +kernel
theorem d_Ro_goToNext_21 : decode b_Ro_goToNext 21 = .ok (.iload_n 1, 1) := by decide +kernel
theorem d_Ro_goToNext_22 : decode b_Ro_goToNext 22 = .ok (.iconst 1, 1) := by decide +kernel
theorem d_Ro_goToNext_23 : decode b_Ro_goToNext 23 = .ok (.iadd, 1) := by decide +kernel
theorem d_Ro_goToNext_24 : decode b_Ro_goToNext 24 = .ok (.iaload, 1) := by decide +kernel
theorem d_Ro_goToNext_25 : decode b_Ro_goToNext 25 = .ok (.if_icmp .le 9, 3) := by decide +kernel
theorem d_Ro_goToNext_28 : decode b_Ro_goToNext 28 = .ok (.iinc 1 (-1), 3) := by decide +kernel
theorem d_Ro_goToNext_31 : decode b_Ro_goToNext 31 = .ok (.goto (-24), 3) := by decide +kernel
theorem d_Ro_goToNext_34 : decode b_Ro_goToNext 34 = .ok (.iload_n 1, 1) := by decide +kernel
theorem d_Ro_goToNext_35 : decode b_Ro_goToNext 35 = .ok (.ifCond .ge 5, 3) := by decide +kernel
theorem d_Ro_goToNext_38 : decode b_Ro_goToNext 38 = .ok (.iconst 0, 1) := by decide +kernel
theorem d_Ro_goToNext_39 : decode b_Ro_goToNext 39 = .ok (.ireturn, 1) := by decide +kernel
theorem d_Ro_goToNext_40 : decode b_Ro_goToNext 40 = .ok (.aload_n 0, 1) := by decide +kernel
theorem d_Ro_goToNext_41 : decode b_Ro_goToNext 41 = .ok (.getfield 57, 3) := by decide +kernel
theorem d_Ro_goToNext_44 : decode b_Ro_goToNext 44 = .ok (.iconst 1, 1) := by decide +kernel
theorem d_Ro_goToNext_45 : decode b_Ro_goToNext 45 = .ok (.isub, 1) := by decide +kernel
theorem d_Ro_goToNext_46 : decode b_Ro_goToNext 46 = .ok (.istore_n 2, 1) := by decide +kernel
theorem d_Ro_goToNext_47 : decode b_Ro_goToNext 47 = .ok (.iload_n 2, 1) := by decide +kernel
theorem d_Ro_goToNext_48 : decode b_Ro_goToNext 48 = .ok (.iload_n 1, 1) := by decide +kernel
theorem d_Ro_goToNext_49 : decode b_Ro_goToNext 49 = .ok (.if_icmp .le 24, 3) := by decide +kernel
theorem d_Ro_goToNext_52 : decode b_Ro_goToNext 52 = .ok (.aload_n 0, 1) := by decide +kernel
theorem d_Ro_goToNext_53 : decode b_Ro_goToNext 53 = .ok (.getfield 15, 3) := by decide +kernel
theorem d_Ro_goToNext_56 : decode b_Ro_goToNext 56 = .ok (.iload_n 2, 1) := by decide +kernel
theorem d_Ro_goToNext_57 : decode b_Ro_goToNext 57 = .ok (.iaload, 1) := by decide +kernel
theorem d_Ro_goToNext_58 : decode b_Ro_goToNext 58 = .ok (.aload_n 0, 1) := by decide +kernel
theorem d_Ro_goToNext_59 : decode b_Ro_goToNext 59 = .ok (.getfield 15, 3) := by decide +kernel
theorem d_Ro_goToNext_62 : decode b_Ro_goToNext 62 = .ok (.iload_n 1, 1) := by decide +kernel
theorem d_Ro_goToNext_63 : decode b_Ro_goToNext 63 = .ok (.iaload, 1) := by decide +kernel
theorem d_Ro_goToNext_64 : decode b_Ro_goToNext 64 = .ok (.if_icmp .ge 9, 3) := by decide +kernel
theorem d_Ro_goToNext_67 : decode b_Ro_goToNext 67 = .ok (.iinc 2 (-1), 3) := by decide +kernel
theorem d_Ro_goToNext_70 : decode b_Ro_goToNext 70 = .ok (.goto (-23), 3) := by decide +kernel
theorem d_Ro_goToNext_73 : decode b_Ro_goToNext 73 = .ok (.aload_n 0, 1) := by decide +kernel
theorem d_Ro_goToNext_74 : decode b_Ro_goToNext 74 = .ok (.iload_n 1, 1) := by decide +kernel
theorem d_Ro_goToNext_75 : decode b_Ro_goToNext 75 = .ok (.iload_n 2, 1) := by decide +kernel
theorem d_Ro_goToNext_76 : decode b_Ro_goToNext 76 = .ok (.invokevirtual 98, 3) := by decide +kernel
theorem d_Ro_goToNext_79 : decode b_Ro_goToNext 79 = .ok (.aload_n 0, 1) := by decide +kernel
theorem d_Ro_goToNext_80 : decode b_Ro_goToNext 80 = .ok (.getfield 57, 3) := by decide +kernel
theorem d_Ro_goToNext_83 : decode b_Ro_goToNext 83 = .ok (.iconst 1, 1) := by decide +kernel
theorem d_Ro_goToNext_84 : decode b_Ro_goToNext 84 = .ok (.isub, 1) := by decide +kernel
theorem d_Ro_goToNext_85 : decode b_Ro_goToNext 85 = .ok (.istore_n 3, 1) := by decide +kernel
theorem d_Ro_goToNext_86 : decode b_Ro_goToNext 86 = .ok (.iload_n 1, 1) := by decide +kernel
theorem d_Ro_goToNext_87 : decode b_Ro_goToNext 87 = .ok (.iconst 1, 1) := by decide +kernel
theorem d_Ro_goToNext_88 : decode b_Ro_goToNext 88 = .ok (.iadd, 1) := by decide +kernel
theorem d_Ro_goToNext_89 : decode b_Ro_goToNext 89 = .ok (.istore 4, 2) := by decide +kernel
theorem d_Ro_goToNext_91 : decode b_Ro_goToNext 91 = .ok (.iload 4, 2) := by decide +kernel
theorem d_Ro_goToNext_93 : decode b_Ro_goToNext 93 = .ok (.iload_n 3, 1) := by decide +kernel
theorem d_Ro_goToNext_94 : decode b_Ro_goToNext 94 = .ok (.if_icmp .ge 19, 3) := by decide +kernel
theorem d_Ro_goToNext_97 : decode b_Ro_goToNext 97 = .ok (.aload_n 0, 1) := by decide +kernel
theorem d_Ro_goToNext_98 : decode b_Ro_goToNext 98 = .ok (.iload 4, 2) := by decide +kernel
theorem d_Ro_goToNext_100 : decode b_Ro_goToNext 100 = .ok (.iload_n 3, 1) := by decide +kernel
theorem d_Ro_goToNext_101 : decode b_Ro_goToNext 101 = .ok (.invokevirtual 98, 3) := by decide +kernel
theorem d_Ro_goToNext_104 : decode b_Ro_goToNext 104 = .ok (.iinc 3 (-1), 3) := by decide +kernel
theorem d_Ro_goToNext_107 : decode b_Ro_goToNext 107 = .ok (.iinc 4 1, 3) := by decide +kernel
theorem d_Ro_goToNext_110 : decode b_Ro_goToNext 110 = .ok (.goto (-19), 3) := by decide +kernel
theorem d_Ro_goToNext_113 : decode b_Ro_goToNext 113 = .ok (.iconst 1, 1) := by decide +kernel
theorem d_Ro_goToNext_114 : decode b_Ro_goToNext 114 = .ok (.ireturn, 1) := by decide +kernel
theorem d_Ro_change_0 : decode b_Ro_change 0 = .ok (.aload_n 0, 1) := by decide +kernel
theorem d_Ro_change_1 : decode b_Ro_change 1 = .ok (.getfield 15, 3) := by decide +kernel
theorem d_Ro_change_4 : decode b_Ro_change 4 = .ok (.iload_n 1, 1) := by decide +kernel
theorem d_Ro_change_5 : decode b_Ro_change 5 = .ok (.iaload, 1) := by decide +kernel
theorem d_Ro_change_6 : decode b_Ro_change 6 = .ok (.istore_n 3, 1) := by decide +kernel
theorem d_Ro_change_7 : decode b_Ro_change 7 = .ok (.aload_n 0, 1) := by decide +kernel
theorem d_Ro_change_8 : decode b_Ro_change 8 = .ok (.getfield 15, 3) := by decide +kernel
theorem d_Ro_change_11 : decode b_Ro_change 11 = .ok (.iload_n 1, 1) := by decide +kernel
theorem d_Ro_change_12 : decode b_Ro_change 12 = .ok (.aload_n 0, 1) := by decide +kernel
theorem d_Ro_change_13 : decode b_Ro_change 13 = .ok (.getfield 15, 3) := by decide +kernel
theorem d_Ro_change_16 : decode b_Ro_change 16 = .ok (.iload_n 2, 1) := by decide +kernel
theorem d_Ro_change_17 : decode b_Ro_change 17 = .ok (.iaload, 1) := by decide +kernel
theorem d_Ro_change_18 : decode b_Ro_change 18 = .ok (.iastore, 1) := by decide +kernel
theorem d_Ro_change_19 : decode b_Ro_change 19 = .ok (.aload_n 0, 1) := by decide +kernel
theorem d_Ro_change_20 : decode b_Ro_change 20 = .ok (.getfield 15, 3) := by decide +kernel
theorem d_Ro_change_23 : decode b_Ro_change 23 = .ok (.iload_n 2, 1) := by decide +kernel
theorem d_Ro_change_24 : decode b_Ro_change 24 = .ok (.iload_n 3, 1) := by decide +kernel
theorem d_Ro_change_25 : decode b_Ro_change 25 = .ok (.iastore, 1) := by decide +kernel
theorem d_Ro_change_26 : decode b_Ro_change 26 = .ok (.return_, 1) := by decide +kernel
theorem d_Ro_agreed_0 : decode b_Ro_agreed 0 = .ok (.aload_n 0, 1) := by decide +kernel
theorem d_Ro_agreed_1 : decode b_Ro_agreed 1 = .ok (.aload_n 1, 1) := by decide +kernel
theorem d_Ro_agreed_2 : decode b_Ro_agreed 2 = .ok (.invokevirtual 24, 3) := by decide +kernel
theorem d_Ro_agreed_5 : decode b_Ro_agreed 5 = .ok (.aload_n 0, 1) := by decide +kernel
theorem d_Ro_agreed_6 : decode b_Ro_agreed 6 = .ok (.iconst 0, 1) := by decide +kernel
theorem d_Ro_agreed_7 : decode b_Ro_agreed 7 = .ok (.putfield 57, 3) := by decide +kernel
theorem d_Ro_agreed_10 : decode b_Ro_agreed 10 = .ok (.iconst 0, 1) := by decide +kernel
theorem d_Ro_agreed_11 : decode b_Ro_agreed 11 = .ok (.istore_n 2, 1) := by decide +kernel
theorem d_Ro_agreed_12 : decode b_Ro_agreed 12 = .ok (.iload_n 2, 1) := by decide +kernel
theorem d_Ro_agreed_13 : decode b_Ro_agreed 13 = .ok (.aload_n 1, 1) := by decide +kernel
theorem d_Ro_agreed_14 : decode b_Ro_agreed 14 = .ok (.getfield 102, 3) := by decide +kernel
theorem d_Ro_agreed_17 : decode b_Ro_agreed 17 = .ok (.if_icmp .ge 47, 3) := by decide +kernel
theorem d_Ro_agreed_20 : decode b_Ro_agreed 20 = .ok (.aload_n 1, 1) := by decide +kernel
theorem d_Ro_agreed_21 : decode b_Ro_agreed 21 = .ok (.aload_n 1, 1) := by decide +kernel
theorem d_Ro_agreed_22 : decode b_Ro_agreed 22 = .ok (.getfield 105, 3) := by decide +kernel
theorem d_Ro_agreed_25 : decode b_Ro_agreed 25 = .ok (.iload_n 2, 1) := by decide +kernel
theorem d_Ro_agreed_26 : decode b_Ro_agreed 26 = .ok (.iaload, 1) := by decide +kernel
theorem d_Ro_agreed_27 : decode b_Ro_agreed 27 = .ok (.invokevirtual 65, 3) := by decide +kernel
theorem d_Ro_agreed_30 : decode b_Ro_agreed 30 = .ok (.ifCond .eq 28, 3) := by decide +kernel
theorem d_Ro_agreed_33 : decode b_Ro_agreed 33 = .ok (.aload_n 0, 1) := by decide +kernel
theorem d_Ro_agreed_34 : decode b_Ro_agreed 34 = .ok (.getfield 15, 3) := by decide +kernel
theorem d_Ro_agreed_37 : decode b_Ro_agreed 37 = .ok (.aload_n 0, 1) := by decide +kernel
theorem d_Ro_agreed_38 : decode b_Ro_agreed 38 = .ok (.getfield 57, 3) := by decide +kernel
theorem d_Ro_agreed_41 : decode b_Ro_agreed 41 = .ok (.aload_n 1, 1) := by decide +kernel
theorem d_Ro_agreed_42 : decode b_Ro_agreed 42 = .ok (.getfield 105, 3) := by decide +kernel
theorem d_Ro_agreed_45 : decode b_Ro_agreed 45 = .ok (.iload_n 2, 1) := by decide +kernel
theorem d_Ro_agreed_46 : decode b_Ro_agreed 46 = .ok (.iaload, 1) := by decide +kernel
theorem d_Ro_agreed_47 : decode b_Ro_agreed 47 = .ok (.iastore, 1) := by decide +kernel
theorem d_Ro_agreed_48 : decode b_Ro_agreed 48 = .ok (.aload_n 0, 1) := by decide +kernel
theorem d_Ro_agreed_49 : decode b_Ro_agreed 49 = .ok (.dup, 1) := by decide +kernel
theorem d_Ro_agreed_50 : decode b_Ro_agreed 50 = .ok (.getfield 57, 3) := by decide +kernel
theorem d_Ro_agreed_53 : decode b_Ro_agreed 53 = .ok (.iconst 1, 1) := by decide +kernel
theorem d_Ro_agreed_54 : decode b_Ro_agreed 54 = .ok (.iadd, 1) := by decide +kernel
theorem d_Ro_agreed_55 : decode b_Ro_agreed 55 = .ok (.putfield 57, 3) := by decide +kernel
theorem d_Ro_agreed_58 : decode b_Ro_agreed 58 = .ok (.iinc 2 1, 3) := by decide +kernel
theorem d_Ro_agreed_61 : decode b_Ro_agreed 61 = .ok (.goto (-49), 3) := by decide +kernel
theorem d_Ro_agreed_64 : decode b_Ro_agreed 64 = .ok (.iconst 0, 1) := by decide +kernel
theorem d_Ro_agreed_65 : decode b_Ro_agreed 65 = .ok (.istore_n 2, 1) := by decide +kernel
theorem d_Ro_agreed_66 : decode b_Ro_agreed 66 = .ok (.iload_n 2, 1) := by decide +kernel
theorem d_Ro_agreed_67 : decode b_Ro_agreed 67 = .ok (.aload_n 0, 1) := by decide +kernel
theorem d_Ro_agreed_68 : decode b_Ro_agreed 68 = .ok (.getfield 57, 3) := by decide +kernel
theorem d_Ro_agreed_71 : decode b_Ro_agreed 71 = .ok (.if_icmp .ge 71, 3) := by decide +kernel
theorem d_Ro_agreed_74 : decode b_Ro_agreed 74 = .ok (.iload_n 2, 1) := by decide +kernel
theorem d_Ro_agreed_75 : decode b_Ro_agreed 75 = .ok (.iconst 1, 1) := by decide +kernel
theorem d_Ro_agreed_76 : decode b_Ro_agreed 76 = .ok (.iadd, 1) := by decide +kernel
theorem d_Ro_agreed_77 : decode b_Ro_agreed 77 = .ok (.istore_n 3, 1) := by decide +kernel
theorem d_Ro_agreed_78 : decode b_Ro_agreed 78 = .ok (.iload_n 3, 1) := by decide +kernel
theorem d_Ro_agreed_79 : decode b_Ro_agreed 79 = .ok (.aload_n 0, 1) := by decide +kernel
theorem d_Ro_agreed_80 : decode b_Ro_agreed 80 = .ok (.getfield 57, 3) := by decide +kernel
theorem d_Ro_agreed_83 : decode b_Ro_agreed 83 = .ok (.if_icmp .ge 53, 3) := by decide +kernel
theorem d_Ro_agreed_86 : decode b_Ro_agreed 86 = .ok (.aload_n 0, 1) := by decide +kernel
theorem d_Ro_agreed_87 : decode b_Ro_agreed 87 = .ok (.iload_n 2, 1) := by decide +kernel
theorem d_Ro_agreed_88 : decode b_Ro_agreed 88 = .ok (.iload_n 3, 1) := by decide +kernel
theorem d_Ro_agreed_89 : decode b_Ro_agreed 89 = .ok (.invokevirtual 108, 3) := by decide +kernel
theorem d_Ro_agreed_92 : decode b_Ro_agreed 92 = .ok (.ifCond .eq 38, 3) := by decide +kernel
theorem d_Ro_agreed_95 : decode b_Ro_agreed 95 = .ok (.bipush 10, 2) := by decide +kernel
theorem d_Ro_agreed_97 : decode b_Ro_agreed 97 = .ok (.aload_n 0, 1) := by decide +kernel
theorem d_Ro_agreed_98 : decode b_Ro_agreed 98 = .ok (.getfield 15, 3) := by decide +kernel
theorem d_Ro_agreed_101 : decode b_Ro_agreed 101 = .ok (.iload_n 2, 1) := by decide +kernel
theorem d_Ro_agreed_102 : decode b_Ro_agreed 102 = .ok (.iaload, 1) := by decide +kernel
theorem d_Ro_agreed_103 : decode b_Ro_agreed 103 = .ok (.aload_n 0, 1) := by decide +kernel
theorem d_Ro_agreed_104 : decode b_Ro_agreed 104 = .ok (.getfield 15, 3) := by decide +kernel
theorem d_Ro_agreed_107 : decode b_Ro_agreed 107 = .ok (.iload_n 3, 1) := by decide +kernel
theorem d_Ro_agreed_108 : decode b_Ro_agreed 108 = .ok (.iaload, 1) := by decide +kernel
theorem d_Ro_agreed_109 : decode b_Ro_agreed 109 = .ok (.invokestatic 112, 3) := by decide +kernel
theorem d_Ro_agreed_112 : decode b_Ro_agreed 112 = .ok (.imul, 1) := by decide +kernel
theorem d_Ro_agreed_113 : decode b_Ro_agreed 113 = .ok (.aload_n 0, 1) := by decide +kernel
theorem d_Ro_agreed_114 : decode b_Ro_agreed 114 = .ok (.getfield 15, 3) := by decide +kernel
theorem d_Ro_agreed_117 : decode b_Ro_agreed 117 = .ok (.iload_n 2, 1) := by decide +kernel
theorem d_Ro_agreed_118 : decode b_Ro_agreed 118 = .ok (.iaload, 1) := by decide +kernel
theorem d_Ro_agreed_119 : decode b_Ro_agreed 119 = .ok (.aload_n 0, 1) := by decide +kernel
theorem d_Ro_agreed_120 : decode b_Ro_agreed 120 = .ok (.getfield 15, 3) := by decide +kernel
theorem d_Ro_agreed_123 : decode b_Ro_agreed 123 = .ok (.iload_n 3, 1) := by decide +kernel
theorem d_Ro_agreed_124 : decode b_Ro_agreed 124 = .ok (.iaload, 1) := by decide +kernel
theorem d_Ro_agreed_125 : decode b_Ro_agreed 125 = .ok (.invokestatic 87, 3) := by decide +kernel
theorem d_Ro_agreed_128 : decode b_Ro_agreed 128 = .ok (.iadd, 1) := by decide +kernel
theorem d_Ro_agreed_129 : decode b_Ro_agreed 129 = .ok (.ireturn, 1) := by decide +kernel
theorem d_Ro_agreed_130 : decode b_Ro_agreed 130 = .ok (.iinc 3 1, 3) := by decide +kernel
theorem d_Ro_agreed_133 : decode b_Ro_agreed 133 = .ok (.goto (-55), 3) := by decide +kernel
theorem d_Ro_agreed_136 : decode b_Ro_agreed 136 = .ok (.iinc 2 1, 3) := by decide +kernel
theorem d_Ro_agreed_139 : decode b_Ro_agreed 139 = .ok (.goto (-73), 3) := by decide +kernel
theorem d_Ro_agreed_142 : decode b_Ro_agreed 142 = .ok (.bipush (-5), 2) := by decide +kernel
theorem d_Ro_agreed_144 : decode b_Ro_agreed 144 = .ok (.ireturn, 1) := by decide +kernel
theorem d_Ro_agree_0 : decode b_Ro_agree 0 = .ok (.aload_n 0, 1) := by decide +kernel
theorem d_Ro_agree_1 : decode b_Ro_agree 1 = .ok (.aload_n 0, 1) := by decide +kernel
theorem d_Ro_agree_2 : decode b_Ro_agree 2 = .ok (.getfield 15, 3) := by decide +kernel
theorem d_Ro_agree_5 : decode b_Ro_agree 5 = .ok (.iload_n 1, 1) := by decide +kernel
theorem d_Ro_agree_6 : decode b_Ro_agree 6 = .ok (.iaload, 1) := by decide +kernel
theorem d_Ro_agree_7 : decode b_Ro_agree 7 = .ok (.iload_n 2, 1) := by decide +kernel
theorem d_Ro_agree_8 : decode b_Ro_agree 8 = .ok (.invokevirtual 83, 3) := by decide +kernel
theorem d_Ro_agree_11 : decode b_Ro_agree 11 = .ok (.aload_n 0, 1) := by decide +kernel
theorem d_Ro_agree_12 : decode b_Ro_agree 12 = .ok (.aload_n 0, 1) := by decide +kernel
theorem d_Ro_agree_13 : decode b_Ro_agree 13 = .ok (.getfield 15, 3) := by decide +kernel
theorem d_Ro_agree_16 : decode b_Ro_agree 16 = .ok (.iload_n 1, 1) := by decide +kernel
theorem d_Ro_agree_17 : decode b_Ro_agree 17 = .ok (.iaload, 1) := by decide +kernel
theorem d_Ro_agree_18 : decode b_Ro_agree 18 = .ok (.iload_n 1, 1) := by decide +kernel
theorem d_Ro_agree_19 : decode b_Ro_agree 19 = .ok (.invokevirtual 83, 3) := by decide +kernel
theorem d_Ro_agree_22 : decode b_Ro_agree 22 = .ok (.isub, 1) := by decide +kernel
theorem d_Ro_agree_23 : decode b_Ro_agree 23 = .ok (.istore_n 3, 1) := by decide +kernel
theorem d_Ro_agree_24 : decode b_Ro_agree 24 = .ok (.aload_n 0, 1) := by decide +kernel
theorem d_Ro_agree_25 : decode b_Ro_agree 25 = .ok (.aload_n 0, 1) := by decide +kernel
theorem d_Ro_agree_26 : decode b_Ro_agree 26 = .ok (.getfield 15, 3) := by decide +kernel
theorem d_Ro_agree_29 : decode b_Ro_agree 29 = .ok (.iload_n 2, 1) := by decide +kernel
theorem d_Ro_agree_30 : decode b_Ro_agree 30 = .ok (.iaload, 1) := by decide +kernel
theorem d_Ro_agree_31 : decode b_Ro_agree 31 = .ok (.iload_n 1, 1) := by decide +kernel
theorem d_Ro_agree_32 : decode b_Ro_agree 32 = .ok (.invokevirtual 83, 3) := by decide +kernel
theorem d_Ro_agree_35 : decode b_Ro_agree 35 = .ok (.aload_n 0, 1) := by decide +kernel
theorem d_Ro_agree_36 : decode b_Ro_agree 36 = .ok (.aload_n 0, 1) := by decide +kernel
theorem d_Ro_agree_37 : decode b_Ro_agree 37 = .ok (.getfield 15, 3) := by decide +kernel
theorem d_Ro_agree_40 : decode b_Ro_agree 40 = .ok (.iload_n 2, 1) := by decide +kernel
theorem d_Ro_agree_41 : decode b_Ro_agree 41 = .ok (.iaload, 1) := by decide +kernel
theorem d_Ro_agree_42 : decode b_Ro_agree 42 = .ok (.iload_n 2, 1) := by decide +kernel
theorem d_Ro_agree_43 : decode b_Ro_agree 43 = .ok (.invokevirtual 83, 3) := by decide +kernel
theorem d_Ro_agree_46 : decode b_Ro_agree 46 = .ok (.isub, 1) := by decide +kernel
theorem d_Ro_agree_47 : decode b_Ro_agree 47 = .ok (.istore 4, 2) := by decide +kernel
theorem d_Ro_agree_49 : decode b_Ro_agree 49 = .ok (.iload_n 3, 1) := by decide +kernel
theorem d_Ro_agree_50 : decode b_Ro_agree 50 = .ok (.ifCond .gt 21, 3) := by decide +kernel
theorem d_Ro_agree_53 : decode b_Ro_agree 53 = .ok (.iload 4, 2) := by decide +kernel
theorem d_Ro_agree_55 : decode b_Ro_agree 55 = .ok (.ifCond .gt 16, 3) := by decide +kernel
theorem d_Ro_agree_58 : decode b_Ro_agree 58 = .ok (.iload_n 3, 1) := by decide +kernel
theorem d_Ro_agree_59 : decode b_Ro_agree 59 = .ok (.ifCond .lt 8, 3) := by decide +kernel
theorem d_Ro_agree_62 : decode b_Ro_agree 62 = .ok (.iload 4, 2) := by decide +kernel
theorem d_Ro_agree_64 : decode b_Ro_agree 64 = .ok (.ifCond .ge 7, 3) := by decide +kernel
theorem d_Ro_agree_67 : decode b_Ro_agree 67 = .ok (.iconst 1, 1) := by decide +kernel
theorem d_Ro_agree_68 : decode b_Ro_agree 68 = .ok (.goto 4, 3) := by decide +kernel
theorem d_Ro_agree_71 : decode b_Ro_agree 71 = .ok (.iconst 0, 1) := by decide +kernel
theorem d_Ro_agree_72 : decode b_Ro_agree 72 = .ok (.ireturn, 1) := by decide +kernel
theorem d_Ro_dear_0 : decode b_Ro_dear 0 = .ok (.aload_n 0, 1) := by decide +kernel
theorem d_Ro_dear_1 : decode b_Ro_dear 1 = .ok (.aload_n 1, 1) := by decide +kernel
theorem d_Ro_dear_2 : decode b_Ro_dear 2 = .ok (.invokevirtual 24, 3) := by decide +kernel
theorem d_Ro_dear_5 : decode b_Ro_dear 5 = .ok (.aload_n 0, 1) := by decide +kernel
theorem d_Ro_dear_6 : decode b_Ro_dear 6 = .ok (.aload_n 1, 1) := by decide +kernel
theorem d_Ro_dear_7 : decode b_Ro_dear 7 = .ok (.invokevirtual 28, 3) := by decide +kernel
theorem d_Ro_dear_10 : decode b_Ro_dear 10 = .ok (.bipush (-5), 2) := by decide +kernel
theorem d_Ro_dear_12 : decode b_Ro_dear 12 = .ok (.istore_n 3, 1) := by decide +kernel
theorem d_Ro_dear_13 : decode b_Ro_dear 13 = .ok (.bipush (-5), 2) := by decide +kernel
theorem d_Ro_dear_15 : decode b_Ro_dear 15 = .ok (.istore 4, 2) := by decide +kernel
theorem d_Ro_dear_17 : decode b_Ro_dear 17 = .ok (.iconst 0, 1) := by decide +kernel
theorem d_Ro_dear_18 : decode b_Ro_dear 18 = .ok (.istore 5, 2) := by decide +kernel
theorem d_Ro_dear_20 : decode b_Ro_dear 20 = .ok (.iload 5, 2) := by decide +kernel
theorem d_Ro_dear_22 : decode b_Ro_dear 22 = .ok (.aload_n 0, 1) := by decide +kernel
theorem d_Ro_dear_23 : decode b_Ro_dear 23 = .ok (.getfield 57, 3) := by decide +kernel
theorem d_Ro_dear_26 : decode b_Ro_dear 26 = .ok (.if_icmp .ge 60, 3) := by decide +kernel
theorem d_Ro_dear_29 : decode b_Ro_dear 29 = .ok (.aload_n 0, 1) := by decide +kernel
theorem d_Ro_dear_30 : decode b_Ro_dear 30 = .ok (.aload_n 0, 1) := by decide +kernel
theorem d_Ro_dear_31 : decode b_Ro_dear 31 = .ok (.getfield 15, 3) := by decide +kernel
theorem d_Ro_dear_34 : decode b_Ro_dear 34 = .ok (.iload 5, 2) := by decide +kernel
theorem d_Ro_dear_36 : decode b_Ro_dear 36 = .ok (.iaload, 1) := by decide +kernel
theorem d_Ro_dear_37 : decode b_Ro_dear 37 = .ok (.aload_n 0, 1) := by decide +kernel
theorem d_Ro_dear_38 : decode b_Ro_dear 38 = .ok (.getfield 57, 3) := by decide +kernel
theorem d_Ro_dear_41 : decode b_Ro_dear 41 = .ok (.iconst 1, 1) := by decide +kernel
theorem d_Ro_dear_42 : decode b_Ro_dear 42 = .ok (.isub, 1) := by decide +kernel
theorem d_Ro_dear_43 : decode b_Ro_dear 43 = .ok (.invokevirtual 83, 3) := by decide +kernel
theorem d_Ro_dear_46 : decode b_Ro_dear 46 = .ok (.aload_n 0, 1) := by decide +kernel
theorem d_Ro_dear_47 : decode b_Ro_dear 47 = .ok (.aload_n 0, 1) := by decide +kernel
theorem d_Ro_dear_48 : decode b_Ro_dear 48 = .ok (.getfield 15, 3) := by decide +kernel
theorem d_Ro_dear_51 : decode b_Ro_dear 51 = .ok (.iload 5, 2) := by decide +kernel
theorem d_Ro_dear_53 : decode b_Ro_dear 53 = .ok (.iaload, 1) := by decide +kernel
theorem d_Ro_dear_54 : decode b_Ro_dear 54 = .ok (.iconst 0, 1) := by decide +kernel
theorem d_Ro_dear_55 : decode b_Ro_dear 55 = .ok (.invokevirtual 83, 3) := by decide +kernel
theorem d_Ro_dear_58 : decode b_Ro_dear 58 = .ok (.isub, 1) := by decide +kernel
theorem d_Ro_dear_59 : decode b_Ro_dear 59 = .ok (.istore 6, 2) := by decide +kernel
theorem d_Ro_dear_61 : decode b_Ro_dear 61 = .ok (.iload 6, 2) := by decide +kernel
theorem d_Ro_dear_63 : decode b_Ro_dear 63 = .ok (.iload 4, 2) := by decide +kernel
theorem d_Ro_dear_65 : decode b_Ro_dear 65 = .ok (.if_icmp .le 15, 3) := by decide +kernel
theorem d_Ro_dear_68 : decode b_Ro_dear 68 = .ok (.aload_n 0, 1) := by decide +kernel
theorem d_Ro_dear_69 : decode b_Ro_dear 69 = .ok (.getfield 15, 3) := by decide +kernel
theorem d_Ro_dear_72 : decode b_Ro_dear 72 = .ok (.iload 5, 2) := by decide +kernel
theorem d_Ro_dear_74 : decode b_Ro_dear 74 = .ok (.iaload, 1) := by decide +kernel
theorem d_Ro_dear_75 : decode b_Ro_dear 75 = .ok (.istore_n 3, 1) := by decide +kernel
theorem d_Ro_dear_76 : decode b_Ro_dear 76 = .ok (.iload 6, 2) := by decide +kernel
theorem d_Ro_dear_78 : decode b_Ro_dear 78 = .ok (.istore 4, 2) := by decide +kernel
theorem d_Ro_dear_80 : decode b_Ro_dear 80 = .ok (.iinc 5 1, 3) := by decide +kernel
theorem d_Ro_dear_83 : decode b_Ro_dear 83 = .ok (.goto (-63), 3) := by decide +kernel
theorem d_Ro_dear_86 : decode b_Ro_dear 86 = .ok (.iload_n 2, 1) := by decide +kernel
theorem d_Ro_dear_87 : decode b_Ro_dear 87 = .ok (.ifCond .eq 8, 3) := by decide +kernel
theorem d_Ro_dear_90 : decode b_Ro_dear 90 = .ok (.iload 4, 2) := by decide +kernel
theorem d_Ro_dear_92 : decode b_Ro_dear 92 = .ok (.goto 4, 3) := by decide +kernel
theorem d_Ro_dear_95 : decode b_Ro_dear 95 = .ok (.iload_n 3, 1) := by decide +kernel
theorem d_Ro_dear_96 : decode b_Ro_dear 96 = .ok (.ireturn, 1) := by decide +kernel
theorem d_Ta_init_0 : decode b_Ta_init 0 = .ok (.aload_n 0, 1) := by decide +kernel
theorem d_Ta_init_1 : decode b_Ta_init 1 = .ok (.invokespecial 3, 3) := by decide +kernel
theorem d_Ta_init_4 : decode b_Ta_init 4 = .ok (.aload_n 0, 1) := by decide +kernel
theorem d_Ta_init_5 : decode b_Ta_init 5 = .ok (.iconst (-1), 1) := by decide +kernel
theorem d_Ta_init_6 : decode b_Ta_init 6 = .ok (.putfield 11, 3) := by decide +kernel
theorem d_Ta_init_9 : decode b_Ta_init 9 = .ok (.aload_n 0, 1) := by decide +kernel
theorem d_Ta_init_10 : decode b_Ta_init 10 = .ok (.bipush 60, 2) := by decide +kernel
theorem d_Ta_init_12 : decode b_Ta_init 12 = .ok (.newarray .long, 2) := by decide +kernel
theorem d_Ta_init_14 : decode b_Ta_init 14 = .ok (.putfield 15, 3) := by decide +kernel
theorem d_Ta_init_17 : decode b_Ta_init 17 = .ok (.return_, 1) := by decide +kernel
theorem d_Ta_becomes_0 : decode b_Ta_becomes 0 = .ok (.aload_n 0, 1) := by decide +kernel
theorem d_Ta_becomes_1 : decode b_Ta_becomes 1 = .ok (.iload_n 1, 1) := by decide +kernel
theorem d_Ta_becomes_2 : decode b_Ta_becomes 2 = .ok (.putfield 11, 3) := by decide +kernel
theorem d_Ta_becomes_5 : decode b_Ta_becomes 5 = .ok (.aload_n 0, 1) := by decide +kernel
theorem d_Ta_becomes_6 : decode b_Ta_becomes 6 = .ok (.iload_n 2, 1) := by decide +kernel
theorem d_Ta_becomes_7 : decode b_Ta_becomes 7 = .ok (.putfield 19, 3) := by decide +kernel
theorem d_Ta_becomes_10 : decode b_Ta_becomes 10 = .ok (.iconst 0, 1) := by decide +kernel
theorem d_Ta_becomes_11 : decode b_Ta_becomes 11 = .ok (.istore_n 3, 1) := by decide +kernel
theorem d_Ta_becomes_12 : decode b_Ta_becomes 12 = .ok (.iload_n 3, 1) := by decide +kernel
theorem d_Ta_becomes_13 : decode b_Ta_becomes 13 = .ok (.bipush 60, 2) := by decide +kernel
theorem d_Ta_becomes_15 : decode b_Ta_becomes 15 = .ok (.if_icmp .ge 16, 3) := by decide +kernel
theorem d_Ta_becomes_18 : decode b_Ta_becomes 18 = .ok (.aload_n 0, 1) := by decide +kernel
theorem d_Ta_becomes_19 : decode b_Ta_becomes 19 = .ok (.getfield 15, 3) := by decide +kernel
theorem d_Ta_becomes_22 : decode b_Ta_becomes 22 = .ok (.iload_n 3, 1) := by decide +kernel
theorem d_Ta_becomes_23 : decode b_Ta_becomes 23 = .ok (.lconst 0, 1) := by decide +kernel
theorem d_Ta_becomes_24 : decode b_Ta_becomes 24 = .ok (.lastore, 1) := by decide +kernel
theorem d_Ta_becomes_25 : decode b_Ta_becomes 25 = .ok (.iinc 3 1, 3) := by decide +kernel
theorem d_Ta_becomes_28 : decode b_Ta_becomes 28 = .ok (.goto (-16), 3) := by decide +kernel
theorem d_Ta_becomes_31 : decode b_Ta_becomes 31 = .ok (.return_, 1) := by decide +kernel
theorem d_Ta_asItem_0 : decode b_Ta_asItem 0 = .ok (.aload_n 0, 1) := by decide +kernel
theorem d_Ta_asItem_1 : decode b_Ta_asItem 1 = .ok (.getfield 11, 3) := by decide +kernel
theorem d_Ta_asItem_4 : decode b_Ta_asItem 4 = .ok (.tableswitch 48 0 3 #[32, 37, 42, 46], 32) := by decide +kernel
theorem d_Ta_asItem_36 : decode b_Ta_asItem 36 = .ok (.lload_n 1, 1) := by decide +kernel
theorem d_Ta_asItem_37 : decode b_Ta_asItem 37 = .ok (.l2i, 1) := by decide +kernel
theorem d_Ta_asItem_38 : decode b_Ta_asItem 38 = .ok (.i2b, 1) := by decide +kernel
theorem d_Ta_asItem_39 : decode b_Ta_asItem 39 = .ok (.i2l, 1) := by decide +kernel
theorem d_Ta_asItem_40 : decode b_Ta_asItem 40 = .ok (.lreturn, 1) := by decide +kernel
theorem d_Ta_asItem_41 : decode b_Ta_asItem 41 = .ok (.lload_n 1, 1) := by decide +kernel
theorem d_Ta_asItem_42 : decode b_Ta_asItem 42 = .ok (.l2i, 1) := by decide +kernel
theorem d_Ta_asItem_43 : decode b_Ta_asItem 43 = .ok (.i2s, 1) := by decide +kernel
theorem d_Ta_asItem_44 : decode b_Ta_asItem 44 = .ok (.i2l, 1) := by decide +kernel
theorem d_Ta_asItem_45 : decode b_Ta_asItem 45 = .ok (.lreturn, 1) := by decide +kernel
theorem d_Ta_asItem_46 : decode b_Ta_asItem 46 = .ok (.lload_n 1, 1) := by decide +kernel
theorem d_Ta_asItem_47 : decode b_Ta_asItem 47 = .ok (.l2i, 1) := by decide +kernel
theorem d_Ta_asItem_48 : decode b_Ta_asItem 48 = .ok (.i2l, 1) := by decide +kernel
theorem d_Ta_asItem_49 : decode b_Ta_asItem 49 = .ok (.lreturn, 1) := by decide +kernel
theorem d_Ta_asItem_50 : decode b_Ta_asItem 50 = .ok (.lload_n 1, 1) := by decide +kernel
theorem d_Ta_asItem_51 : decode b_Ta_asItem 51 = .ok (.lreturn, 1) := by decide +kernel
theorem d_Ta_asItem_52 : decode b_Ta_asItem 52 = .ok (.lload_n 1, 1) := by decide +kernel
theorem d_Ta_asItem_53 : decode b_Ta_asItem 53 = .ok (.lconst 0, 1) := by decide +kernel
theorem d_Ta_asItem_54 : decode b_Ta_asItem 54 = .ok (.lcmp, 1) := by decide +kernel
theorem d_Ta_asItem_55 : decode b_Ta_asItem 55 = .ok (.ifCond .eq 7, 3) := by decide +kernel
theorem d_Ta_asItem_58 : decode b_Ta_asItem 58 = .ok (.iconst 1, 1) := by decide +kernel
theorem d_Ta_asItem_59 : decode b_Ta_asItem 59 = .ok (.goto 4, 3) := by decide +kernel
theorem d_Ta_asItem_62 : decode b_Ta_asItem 62 = .ok (.iconst 0, 1) := by decide +kernel
theorem d_Ta_asItem_63 : decode b_Ta_asItem 63 = .ok (.invokestatic 22, 3) := by decide +kernel
theorem d_Ta_asItem_66 : decode b_Ta_asItem 66 = .ok (.i2l, 1) := by decide +kernel
theorem d_Ta_asItem_67 : decode b_Ta_asItem 67 = .ok (.lreturn, 1) := by decide +kernel
theorem d_Ta_holds_0 : decode b_Ta_holds 0 = .ok (.iload_n 2, 1) := by decide +kernel
theorem d_Ta_holds_1 : decode b_Ta_holds 1 = .ok (.iconst 0, 1) := by decide +kernel
theorem d_Ta_holds_2 : decode b_Ta_holds 2 = .ok (.aload_n 0, 1) := by decide +kernel
theorem d_Ta_holds_3 : decode b_Ta_holds 3 = .ok (.getfield 19, 3) := by decide +kernel
theorem d_Ta_holds_6 : decode b_Ta_holds 6 = .ok (.invokestatic 26, 3) := by decide +kernel
theorem d_Ta_holds_9 : decode b_Ta_holds 9 = .ok (.ifCond .eq 21, 3) := by decide +kernel
theorem d_Ta_holds_12 : decode b_Ta_holds 12 = .ok (.iload_n 1, 1) := by decide +kernel
theorem d_Ta_holds_13 : decode b_Ta_holds 13 = .ok (.iconst 0, 1) := by decide +kernel
theorem d_Ta_holds_14 : decode b_Ta_holds 14 = .ok (.aload_n 0, 1) := by decide +kernel
theorem d_Ta_holds_15 : decode b_Ta_holds 15 = .ok (.getfield 19, 3) := by decide +kernel
theorem d_Ta_holds_18 : decode b_Ta_holds 18 = .ok (.iload_n 2, 1) := by decide +kernel
theorem d_Ta_holds_19 : decode b_Ta_holds 19 = .ok (.isub, 1) := by decide +kernel
theorem d_Ta_holds_20 : decode b_Ta_holds 20 = .ok (.invokestatic 26, 3) := by decide +kernel
theorem d_Ta_holds_23 : decode b_Ta_holds 23 = .ok (.ifCond .eq 7, 3) := by decide +kernel
theorem d_Ta_holds_26 : decode b_Ta_holds 26 = .ok (.iconst 1, 1) := by decide +kernel
theorem d_Ta_holds_27 : decode b_Ta_holds 27 = .ok (.goto 4, 3) := by decide +kernel
theorem d_Ta_holds_30 : decode b_Ta_holds 30 = .ok (.iconst 0, 1) := by decide +kernel
theorem d_Ta_holds_31 : decode b_Ta_holds 31 = .ok (.ireturn, 1) := by decide +kernel
theorem d_On_init_0 : decode b_On_init 0 = .ok (.aload_n 0, 1) := by decide +kernel
theorem d_On_init_1 : decode b_On_init 1 = .ok (.invokespecial 3, 3) := by decide +kernel
theorem d_On_init_4 : decode b_On_init 4 = .ok (.aload_n 0, 1) := by decide +kernel
theorem d_On_init_5 : decode b_On_init 5 = .ok (.new 9, 3) := by decide +kernel
theorem d_On_init_8 : decode b_On_init 8 = .ok (.dup, 1) := by decide +kernel
theorem d_On_init_9 : decode b_On_init 9 = .ok (.invokespecial 11, 3) := by decide +kernel
theorem d_On_init_12 : decode b_On_init 12 = .ok (.putfield 12, 3) := by decide +kernel
theorem d_On_init_15 : decode b_On_init 15 = .ok (.aload_n 0, 1) := by decide +kernel
theorem d_On_init_16 : decode b_On_init 16 = .ok (.new 18, 3) := by decide +kernel
theorem d_On_init_19 : decode b_On_init 19 = .ok (.dup, 1) := by decide +kernel
theorem d_On_init_20 : decode b_On_init 20 = .ok (.aload_n 0, 1) := by decide +kernel
theorem d_On_init_21 : decode b_On_init 21 = .ok (.getfield 12, 3) := by decide +kernel
theorem d_On_init_24 : decode b_On_init 24 = .ok (.invokespecial 20, 3) := by decide +kernel
theorem d_On_init_27 : decode b_On_init 27 = .ok (.putfield 23, 3) := by decide +kernel
theorem d_On_init_30 : decode b_On_init 30 = .ok (.aload_n 0, 1) := by decide +kernel
theorem d_On_init_31 : decode b_On_init 31 = .ok (.new 18, 3) := by decide +kernel
theorem d_On_init_34 : decode b_On_init 34 = .ok (.dup, 1) := by decide +kernel
theorem d_On_init_35 : decode b_On_init 35 = .ok (.aload_n 0, 1) := by decide +kernel
theorem d_On_init_36 : decode b_On_init 36 = .ok (.getfield 12, 3) := by decide +kernel
theorem d_On_init_39 : decode b_On_init 39 = .ok (.invokespecial 20, 3) := by decide +kernel
theorem d_On_init_42 : decode b_On_init 42 = .ok (.putfield 27, 3) := by decide +kernel
theorem d_On_init_45 : decode b_On_init 45 = .ok (.aload_n 0, 1) := by decide +kernel
theorem d_On_init_46 : decode b_On_init 46 = .ok (.new 18, 3) := by decide +kernel
theorem d_On_init_49 : decode b_On_init 49 = .ok (.dup, 1) := by decide +kernel
theorem d_On_init_50 : decode b_On_init 50 = .ok (.aload_n 0, 1) := by decide +kernel
theorem d_On_init_51 : decode b_On_init 51 = .ok (.getfield 12, 3) := by decide +kernel
theorem d_On_init_54 : decode b_On_init 54 = .ok (.invokespecial 20, 3) := by decide +kernel
theorem d_On_init_57 : decode b_On_init 57 = .ok (.putfield 30, 3) := by decide +kernel
theorem d_On_init_60 : decode b_On_init 60 = .ok (.aload_n 0, 1) := by decide +kernel
theorem d_On_init_61 : decode b_On_init 61 = .ok (.new 33, 3) := by decide +kernel
theorem d_On_init_64 : decode b_On_init 64 = .ok (.dup, 1) := by decide +kernel
theorem d_On_init_65 : decode b_On_init 65 = .ok (.invokespecial 35, 3) := by decide +kernel
theorem d_On_init_68 : decode b_On_init 68 = .ok (.putfield 36, 3) := by decide +kernel
theorem d_On_init_71 : decode b_On_init 71 = .ok (.aload_n 0, 1) := by decide +kernel
theorem d_On_init_72 : decode b_On_init 72 = .ok (.new 9, 3) := by decide +kernel
theorem d_On_init_75 : decode b_On_init 75 = .ok (.dup, 1) := by decide +kernel
theorem d_On_init_76 : decode b_On_init 76 = .ok (.invokespecial 11, 3) := by decide +kernel
theorem d_On_init_79 : decode b_On_init 79 = .ok (.putfield 40, 3) := by decide +kernel
theorem d_On_init_82 : decode b_On_init 82 = .ok (.aload_n 0, 1) := by decide +kernel
theorem d_On_init_83 : decode b_On_init 83 = .ok (.new 43, 3) := by decide +kernel
theorem d_On_init_86 : decode b_On_init 86 = .ok (.dup, 1) := by decide +kernel
theorem d_On_init_87 : decode b_On_init 87 = .ok (.invokespecial 45, 3) := by decide +kernel
theorem d_On_init_90 : decode b_On_init 90 = .ok (.putfield 46, 3) := by decide +kernel
theorem d_On_init_93 : decode b_On_init 93 = .ok (.aload_n 0, 1) := by decide +kernel
theorem d_On_init_94 : decode b_On_init 94 = .ok (.new 50, 3) := by decide +kernel
theorem d_On_init_97 : decode b_On_init 97 = .ok (.dup, 1) := by decide +kernel
theorem d_On_init_98 : decode b_On_init 98 = .ok (.invokespecial 52, 3) := by decide +kernel
theorem d_On_init_101 : decode b_On_init 101 = .ok (.putfield 53, 3) := by decide +kernel
theorem d_On_init_104 : decode b_On_init 104 = .ok (.aload_n 0, 1) := by decide +kernel
theorem d_On_init_105 : decode b_On_init 105 = .ok (.bipush 6, 2) := by decide +kernel
theorem d_On_init_107 : decode b_On_init 107 = .ok (.anewarray 57, 3) := by decide +kernel
theorem d_On_init_110 : decode b_On_init 110 = .ok (.putfield 59, 3) := by decide +kernel
theorem d_On_init_113 : decode b_On_init 113 = .ok (.iconst 0, 1) := by decide +kernel
theorem d_On_init_114 : decode b_On_init 114 = .ok (.istore_n 1, 1) := by decide +kernel
theorem d_On_init_115 : decode b_On_init 115 = .ok (.iload_n 1, 1) := by decide +kernel
theorem d_On_init_116 : decode b_On_init 116 = .ok (.bipush 6, 2) := by decide +kernel
theorem d_On_init_118 : decode b_On_init 118 = .ok (.if_icmp .ge 22, 3) := by decide +kernel
theorem d_On_init_121 : decode b_On_init 121 = .ok (.aload_n 0, 1) := by decide +kernel
theorem d_On_init_122 : decode b_On_init 122 = .ok (.getfield 59, 3) := by decide +kernel
theorem d_On_init_125 : decode b_On_init 125 = .ok (.iload_n 1, 1) := by decide +kernel
theorem d_On_init_126 : decode b_On_init 126 = .ok (.new 57, 3) := by decide +kernel
theorem d_On_init_129 : decode b_On_init 129 = .ok (.dup, 1) := by decide +kernel
theorem d_On_init_130 : decode b_On_init 130 = .ok (.invokespecial 63, 3) := by decide +kernel
theorem d_On_init_133 : decode b_On_init 133 = .ok (.aastore, 1) := by decide +kernel
theorem d_On_init_134 : decode b_On_init 134 = .ok (.iinc 1 1, 3) := by decide +kernel
theorem d_On_init_137 : decode b_On_init 137 = .ok (.goto (-22), 3) := by decide +kernel
theorem d_On_init_140 : decode b_On_init 140 = .ok (.return_, 1) := by decide +kernel
theorem d_On_mourner_0 : decode b_On_mourner 0 = .ok (.iload_n 1, 1) := by decide +kernel
theorem d_On_mourner_1 : decode b_On_mourner 1 = .ok (.iconst 0, 1) := by decide +kernel
theorem d_On_mourner_2 : decode b_On_mourner 2 = .ok (.bipush 6, 2) := by decide +kernel
theorem d_On_mourner_4 : decode b_On_mourner 4 = .ok (.invokestatic 64, 3) := by decide +kernel
theorem d_On_mourner_7 : decode b_On_mourner 7 = .ok (.ifCond .ne 5, 3) := by decide +kernel
theorem d_On_mourner_10 : decode b_On_mourner 10 = .ok (.iconst (-1), 1) := by decide +kernel
theorem d_On_mourner_11 : decode b_On_mourner 11 = .ok (.ireturn, 1) := by decide +kernel
theorem d_On_mourner_12 : decode b_On_mourner 12 = .ok (.iload_n 2, 1) := by decide +kernel
theorem d_On_mourner_13 : decode b_On_mourner 13 = .ok (.iconst 0, 1) := by decide +kernel
theorem d_On_mourner_14 : decode b_On_mourner 14 = .ok (.bipush 9, 2) := by decide +kernel
theorem d_On_mourner_16 : decode b_On_mourner 16 = .ok (.invokestatic 64, 3) := by decide +kernel
theorem d_On_mourner_19 : decode b_On_mourner 19 = .ok (.ifCond .eq 13, 3) := by decide +kernel
theorem d_On_mourner_22 : decode b_On_mourner 22 = .ok (.iload_n 3, 1) := by decide +kernel
theorem d_On_mourner_23 : decode b_On_mourner 23 = .ok (.iconst 0, 1) := by decide +kernel
theorem d_On_mourner_24 : decode b_On_mourner 24 = .ok (.bipush 99, 2) := by decide +kernel
theorem d_On_mourner_26 : decode b_On_mourner 26 = .ok (.invokestatic 64, 3) := by decide +kernel
theorem d_On_mourner_29 : decode b_On_mourner 29 = .ok (.ifCond .ne 6, 3) := by decide +kernel
theorem d_On_mourner_32 : decode b_On_mourner 32 = .ok (.bipush (-2), 2) := by decide +kernel
theorem d_On_mourner_34 : decode b_On_mourner 34 = .ok (.ireturn, 1) := by decide +kernel
theorem d_On_mourner_35 : decode b_On_mourner 35 = .ok (.aload_n 0, 1) := by decide +kernel
theorem d_On_mourner_36 : decode b_On_mourner 36 = .ok (.getfield 23, 3) := by decide +kernel
theorem d_On_mourner_39 : decode b_On_mourner 39 = .ok (.getfield 68, 3) := by decide +kernel
theorem d_On_mourner_42 : decode b_On_mourner 42 = .ok (.bipush 6, 2) := by decide +kernel
theorem d_On_mourner_44 : decode b_On_mourner 44 = .ok (.if_icmp .lt 6, 3) := by decide +kernel
theorem d_On_mourner_47 : decode b_On_mourner 47 = .ok (.bipush (-4), 2) := by decide +kernel
theorem d_On_mourner_49 : decode b_On_mourner 49 = .ok (.ireturn, 1) := by decide +kernel
theorem d_On_mourner_50 : decode b_On_mourner 50 = .ok (.aload_n 0, 1) := by decide +kernel
theorem d_On_mourner_51 : decode b_On_mourner 51 = .ok (.getfield 23, 3) := by decide +kernel
theorem d_On_mourner_54 : decode b_On_mourner 54 = .ok (.getfield 72, 3) := by decide +kernel
theorem d_On_mourner_57 : decode b_On_mourner 57 = .ok (.aload_n 0, 1) := by decide +kernel
theorem d_On_mourner_58 : decode b_On_mourner 58 = .ok (.getfield 23, 3) := by decide +kernel
theorem d_On_mourner_61 : decode b_On_mourner 61 = .ok (.getfield 68, 3) := by decide +kernel
theorem d_On_mourner_64 : decode b_On_mourner 64 = .ok (.aaload, 1) := by decide +kernel
theorem d_On_mourner_65 : decode b_On_mourner 65 = .ok (.iload_n 1, 1) := by decide +kernel
theorem d_On_mourner_66 : decode b_On_mourner 66 = .ok (.iload_n 2, 1) := by decide +kernel
theorem d_On_mourner_67 : decode b_On_mourner 67 = .ok (.iload_n 3, 1) := by decide +kernel
theorem d_On_mourner_68 : decode b_On_mourner 68 = .ok (.invokevirtual 76, 3) := by decide +kernel
theorem d_On_mourner_71 : decode b_On_mourner 71 = .ok (.aload_n 0, 1) := by decide +kernel
theorem d_On_mourner_72 : decode b_On_mourner 72 = .ok (.getfield 23, 3) := by decide +kernel
theorem d_On_mourner_75 : decode b_On_mourner 75 = .ok (.dup, 1) := by decide +kernel
theorem d_On_mourner_76 : decode b_On_mourner 76 = .ok (.getfield 68, 3) := by decide +kernel
theorem d_On_mourner_79 : decode b_On_mourner 79 = .ok (.iconst 1, 1) := by decide +kernel
theorem d_On_mourner_80 : decode b_On_mourner 80 = .ok (.iadd, 1) := by decide +kernel
theorem d_On_mourner_81 : decode b_On_mourner 81 = .ok (.putfield 68, 3) := by decide +kernel
theorem d_On_mourner_84 : decode b_On_mourner 84 = .ok (.aload_n 0, 1) := by decide +kernel
theorem d_On_mourner_85 : decode b_On_mourner 85 = .ok (.getfield 23, 3) := by decide +kernel
theorem d_On_mourner_88 : decode b_On_mourner 88 = .ok (.getfield 68, 3) := by decide +kernel
theorem d_On_mourner_91 : decode b_On_mourner 91 = .ok (.iconst 1, 1) := by decide +kernel
theorem d_On_mourner_92 : decode b_On_mourner 92 = .ok (.isub, 1) := by decide +kernel
theorem d_On_mourner_93 : decode b_On_mourner 93 = .ok (.ireturn, 1) := by decide +kernel
theorem d_On_of_0 : decode b_On_of 0 = .ok (.aload_n 0, 1) := by decide +kernel
theorem d_On_of_1 : decode b_On_of 1 = .ok (.iload_n 1, 1) := by decide +kernel
theorem d_On_of_2 : decode b_On_of 2 = .ok (.invokevirtual 82, 3) := by decide +kernel
theorem d_On_of_5 : decode b_On_of 5 = .ok (.ifCond .ne 5, 3) := by decide +kernel
theorem d_On_of_8 : decode b_On_of 8 = .ok (.iconst (-1), 1) := by decide +kernel
theorem d_On_of_9 : decode b_On_of 9 = .ok (.ireturn, 1) := by decide +kernel
theorem d_On_of_10 : decode b_On_of 10 = .ok (.aload_n 0, 1) := by decide +kernel
theorem d_On_of_11 : decode b_On_of 11 = .ok (.getfield 23, 3) := by decide +kernel
theorem d_On_of_14 : decode b_On_of 14 = .ok (.getfield 72, 3) := by decide +kernel
theorem d_On_of_17 : decode b_On_of 17 = .ok (.iload_n 1, 1) := by decide +kernel
theorem d_On_of_18 : decode b_On_of 18 = .ok (.aaload, 1) := by decide +kernel
theorem d_On_of_19 : decode b_On_of 19 = .ok (.astore_n 3, 1) := by decide +kernel
theorem d_On_of_20 : decode b_On_of 20 = .ok (.iload_n 2, 1) := by decide +kernel
theorem d_On_of_21 : decode b_On_of 21 = .ok (.tableswitch 99 0 7 #[47, 52, 57, 62, 67, 72, 80, 89], 47) := by decide +kernel
theorem d_On_of_68 : decode b_On_of 68 = .ok (.aload_n 3, 1) := by decide +kernel
theorem d_On_of_69 : decode b_On_of 69 = .ok (.getfield 86, 3) := by decide +kernel
theorem d_On_of_72 : decode b_On_of 72 = .ok (.ireturn, 1) := by decide +kernel
theorem d_On_of_73 : decode b_On_of 73 = .ok (.aload_n 3, 1) := by decide +kernel
theorem d_On_of_74 : decode b_On_of 74 = .ok (.getfield 89, 3) := by decide +kernel
theorem d_On_of_77 : decode b_On_of 77 = .ok (.ireturn, 1) := by decide +kernel
theorem d_On_of_78 : decode b_On_of 78 = .ok (.aload_n 3, 1) := by decide +kernel
theorem d_On_of_79 : decode b_On_of 79 = .ok (.getfield 92, 3) := by decide +kernel
theorem d_On_of_82 : decode b_On_of 82 = .ok (.ireturn, 1) := by decide +kernel
theorem d_On_of_83 : decode b_On_of 83 = .ok (.aload_n 3, 1) := by decide +kernel
theorem d_On_of_84 : decode b_On_of 84 = .ok (.getfield 95, 3) := by decide +kernel
theorem d_On_of_87 : decode b_On_of 87 = .ok (.ireturn, 1) := by decide +kernel
theorem d_On_of_88 : decode b_On_of 88 = .ok (.aload_n 3, 1) := by decide +kernel
theorem d_On_of_89 : decode b_On_of 89 = .ok (.getfield 98, 3) := by decide +kernel
theorem d_On_of_92 : decode b_On_of 92 = .ok (.ireturn, 1) := by decide +kernel
theorem d_On_of_93 : decode b_On_of 93 = .ok (.aload_n 3, 1) := by decide +kernel
theorem d_On_of_94 : decode b_On_of 94 = .ok (.getfield 101, 3) := by decide +kernel
theorem d_On_of_97 : decode b_On_of 97 = .ok (.invokestatic 105, 3) := by decide +kernel
theorem d_On_of_100 : decode b_On_of 100 = .ok (.ireturn, 1) := by decide +kernel
theorem d_On_of_101 : decode b_On_of 101 = .ok (.aload_n 0, 1) := by decide +kernel
theorem d_On_of_102 : decode b_On_of 102 = .ok (.getfield 23, 3) := by decide +kernel
theorem d_On_of_105 : decode b_On_of 105 = .ok (.iload_n 1, 1) := by decide +kernel
theorem d_On_of_106 : decode b_On_of 106 = .ok (.invokevirtual 109, 3) := by decide +kernel
theorem d_On_of_109 : decode b_On_of 109 = .ok (.ireturn, 1) := by decide +kernel
theorem d_On_of_110 : decode b_On_of 110 = .ok (.aload_n 0, 1) := by decide +kernel
theorem d_On_of_111 : decode b_On_of 111 = .ok (.getfield 23, 3) := by decide +kernel
theorem d_On_of_114 : decode b_On_of 114 = .ok (.aload_n 3, 1) := by decide +kernel
theorem d_On_of_115 : decode b_On_of 115 = .ok (.iconst 0, 1) := by decide +kernel
theorem d_On_of_116 : decode b_On_of 116 = .ok (.invokevirtual 113, 3) := by decide +kernel
theorem d_On_of_119 : decode b_On_of 119 = .ok (.ireturn, 1) := by decide +kernel
theorem d_On_of_120 : decode b_On_of 120 = .ok (.iconst (-1), 1) := by decide +kernel
theorem d_On_of_121 : decode b_On_of 121 = .ok (.ireturn, 1) := by decide +kernel
theorem d_On_set_0 : decode b_On_set 0 = .ok (.aload_n 0, 1) := by decide +kernel
theorem d_On_set_1 : decode b_On_set 1 = .ok (.iload_n 1, 1) := by decide +kernel
theorem d_On_set_2 : decode b_On_set 2 = .ok (.invokevirtual 82, 3) := by decide +kernel
theorem d_On_set_5 : decode b_On_set 5 = .ok (.ifCond .eq 12, 3) := by decide +kernel
theorem d_On_set_8 : decode b_On_set 8 = .ok (.iload_n 2, 1) := by decide +kernel
theorem d_On_set_9 : decode b_On_set 9 = .ok (.iconst 0, 1) := by decide +kernel
theorem d_On_set_10 : decode b_On_set 10 = .ok (.iconst 2, 1) := by decide +kernel
theorem d_On_set_11 : decode b_On_set 11 = .ok (.invokestatic 64, 3) := by decide +kernel
theorem d_On_set_14 : decode b_On_set 14 = .ok (.ifCond .ne 5, 3) := by decide +kernel
theorem d_On_set_17 : decode b_On_set 17 = .ok (.iconst (-1), 1) := by decide +kernel
theorem d_On_set_18 : decode b_On_set 18 = .ok (.ireturn, 1) := by decide +kernel
theorem d_On_set_19 : decode b_On_set 19 = .ok (.iload_n 2, 1) := by decide +kernel
theorem d_On_set_20 : decode b_On_set 20 = .ok (.ifCond .ne 8, 3) := by decide +kernel
theorem d_On_set_23 : decode b_On_set 23 = .ok (.bipush 99, 2) := by decide +kernel
theorem d_On_set_25 : decode b_On_set 25 = .ok (.goto 15, 3) := by decide +kernel
theorem d_On_set_28 : decode b_On_set 28 = .ok (.iload_n 2, 1) := by decide +kernel
theorem d_On_set_29 : decode b_On_set 29 = .ok (.iconst 1, 1) := by decide +kernel
theorem d_On_set_30 : decode b_On_set 30 = .ok (.if_icmp .ne 8, 3) := by decide +kernel
theorem d_On_set_33 : decode b_On_set 33 = .ok (.bipush 99, 2) := by decide +kernel
theorem d_On_set_35 : decode b_On_set 35 = .ok (.goto 5, 3) := by decide +kernel
theorem d_On_set_38 : decode b_On_set 38 = .ok (.ldc 117, 2) := by decide +kernel
theorem d_On_set_40 : decode b_On_set 40 = .ok (.istore 4, 2) := by decide +kernel
theorem d_On_set_42 : decode b_On_set 42 = .ok (.iload_n 3, 1) := by decide +kernel
theorem d_On_set_43 : decode b_On_set 43 = .ok (.iconst 0, 1) := by decide +kernel
theorem d_On_set_44 : decode b_On_set 44 = .ok (.iload 4, 2) := by decide +kernel
theorem d_On_set_46 : decode b_On_set 46 = .ok (.invokestatic 64, 3) := by decide +kernel
theorem d_On_set_49 : decode b_On_set 49 = .ok (.ifCond .ne 6, 3) := by decide +kernel
theorem d_On_set_52 : decode b_On_set 52 = .ok (.bipush (-2), 2) := by decide +kernel
theorem d_On_set_54 : decode b_On_set 54 = .ok (.ireturn, 1) := by decide +kernel
theorem d_On_set_55 : decode b_On_set 55 = .ok (.aload_n 0, 1) := by decide +kernel
theorem d_On_set_56 : decode b_On_set 56 = .ok (.getfield 23, 3) := by decide +kernel
theorem d_On_set_59 : decode b_On_set 59 = .ok (.getfield 72, 3) := by decide +kernel
theorem d_On_set_62 : decode b_On_set 62 = .ok (.iload_n 1, 1) := by decide +kernel
theorem d_On_set_63 : decode b_On_set 63 = .ok (.aaload, 1) := by decide +kernel
theorem d_On_set_64 : decode b_On_set 64 = .ok (.astore 5, 2) := by decide +kernel
theorem d_On_set_66 : decode b_On_set 66 = .ok (.iload_n 2, 1) := by decide +kernel
theorem d_On_set_67 : decode b_On_set 67 = .ok (.ifCond .ne 19, 3) := by decide +kernel
theorem d_On_set_70 : decode b_On_set 70 = .ok (.aload 5, 2) := by decide +kernel
theorem d_On_set_72 : decode b_On_set 72 = .ok (.getfield 92, 3) := by decide +kernel
theorem d_On_set_75 : decode b_On_set 75 = .ok (.istore 6, 2) := by decide +kernel
theorem d_On_set_77 : decode b_On_set 77 = .ok (.aload 5, 2) := by decide +kernel
theorem d_On_set_79 : decode b_On_set 79 = .ok (.iload_n 3, 1) := by decide +kernel
theorem d_On_set_80 : decode b_On_set 80 = .ok (.putfield 92, 3) := by decide +kernel
theorem d_On_set_83 : decode b_On_set 83 = .ok (.goto 37, 3) := by decide +kernel
theorem d_On_set_86 : decode b_On_set 86 = .ok (.iload_n 2, 1) := by decide +kernel
theorem d_On_set_87 : decode b_On_set 87 = .ok (.iconst 1, 1) := by decide +kernel
theorem d_On_set_88 : decode b_On_set 88 = .ok (.if_icmp .ne 19, 3) := by decide +kernel
theorem d_On_set_91 : decode b_On_set 91 = .ok (.aload 5, 2) := by decide +kernel
theorem d_On_set_93 : decode b_On_set 93 = .ok (.getfield 95, 3) := by decide +kernel
theorem d_On_set_96 : decode b_On_set 96 = .ok (.istore 6, 2) := by decide +kernel
theorem d_On_set_98 : decode b_On_set 98 = .ok (.aload 5, 2) := by decide +kernel
theorem d_On_set_100 : decode b_On_set 100 = .ok (.iload_n 3, 1) := by decide +kernel
theorem d_On_set_101 : decode b_On_set 101 = .ok (.putfield 95, 3) := by decide +kernel
theorem d_On_set_104 : decode b_On_set 104 = .ok (.goto 16, 3) := by decide +kernel
theorem d_On_set_107 : decode b_On_set 107 = .ok (.aload 5, 2) := by decide +kernel
theorem d_On_set_109 : decode b_On_set 109 = .ok (.getfield 98, 3) := by decide +kernel
theorem d_On_set_112 : decode b_On_set 112 = .ok (.istore 6, 2) := by decide +kernel
theorem d_On_set_114 : decode b_On_set 114 = .ok (.aload 5, 2) := by decide +kernel
theorem d_On_set_116 : decode b_On_set 116 = .ok (.iload_n 3, 1) := by decide +kernel
theorem d_On_set_117 : decode b_On_set 117 = .ok (.putfield 98, 3) := by decide +kernel
theorem d_On_set_120 : decode b_On_set 120 = .ok (.iload 6, 2) := by decide +kernel
theorem d_On_set_122 : decode b_On_set 122 = .ok (.ireturn, 1) := by decide +kernel
theorem d_On_done_0 : decode b_On_done 0 = .ok (.aload_n 0, 1) := by decide +kernel
theorem d_On_done_1 : decode b_On_done 1 = .ok (.iload_n 1, 1) := by decide +kernel
theorem d_On_done_2 : decode b_On_done 2 = .ok (.invokevirtual 82, 3) := by decide +kernel
theorem d_On_done_5 : decode b_On_done 5 = .ok (.ifCond .ne 5, 3) := by decide +kernel
theorem d_On_done_8 : decode b_On_done 8 = .ok (.iconst (-1), 1) := by decide +kernel
theorem d_On_done_9 : decode b_On_done 9 = .ok (.ireturn, 1) := by decide +kernel
theorem d_On_done_10 : decode b_On_done 10 = .ok (.aload_n 0, 1) := by decide +kernel
theorem d_On_done_11 : decode b_On_done 11 = .ok (.getfield 23, 3) := by decide +kernel
theorem d_On_done_14 : decode b_On_done 14 = .ok (.getfield 72, 3) := by decide +kernel
theorem d_On_done_17 : decode b_On_done 17 = .ok (.iload_n 1, 1) := by decide +kernel
theorem d_On_done_18 : decode b_On_done 18 = .ok (.aaload, 1) := by decide +kernel
theorem d_On_done_19 : decode b_On_done 19 = .ok (.getfield 101, 3) := by decide +kernel
theorem d_On_done_22 : decode b_On_done 22 = .ok (.invokestatic 105, 3) := by decide +kernel
theorem d_On_done_25 : decode b_On_done 25 = .ok (.istore_n 3, 1) := by decide +kernel
theorem d_On_done_26 : decode b_On_done 26 = .ok (.aload_n 0, 1) := by decide +kernel
theorem d_On_done_27 : decode b_On_done 27 = .ok (.getfield 23, 3) := by decide +kernel
theorem d_On_done_30 : decode b_On_done 30 = .ok (.getfield 72, 3) := by decide +kernel
theorem d_On_done_33 : decode b_On_done 33 = .ok (.iload_n 1, 1) := by decide +kernel
theorem d_On_done_34 : decode b_On_done 34 = .ok (.aaload, 1) := by decide +kernel
theorem d_On_done_35 : decode b_On_done 35 = .ok (.iload_n 2, 1) := by decide +kernel
theorem d_On_done_36 : decode b_On_done 36 = .ok (.putfield 101, 3) := by decide +kernel
theorem d_On_done_39 : decode b_On_done 39 = .ok (.iload_n 3, 1) := by decide +kernel
theorem d_On_done_40 : decode b_On_done 40 = .ok (.ireturn, 1) := by decide +kernel
theorem d_On_list_0 : decode b_On_list 0 = .ok (.iload_n 1, 1) := by decide +kernel
theorem d_On_list_1 : decode b_On_list 1 = .ok (.iconst (-1), 1) := by decide +kernel
theorem d_On_list_2 : decode b_On_list 2 = .ok (.if_icmp .ne 13, 3) := by decide +kernel
theorem d_On_list_5 : decode b_On_list 5 = .ok (.aload_n 0, 1) := by decide +kernel
theorem d_On_list_6 : decode b_On_list 6 = .ok (.getfield 23, 3) := by decide +kernel
theorem d_On_list_9 : decode b_On_list 9 = .ok (.iconst 0, 1) := by decide +kernel
theorem d_On_list_10 : decode b_On_list 10 = .ok (.putfield 118, 3) := by decide +kernel
theorem d_On_list_13 : decode b_On_list 13 = .ok (.iconst 0, 1) := by decide +kernel
theorem d_On_list_14 : decode b_On_list 14 = .ok (.ireturn, 1) := by decide +kernel
theorem d_On_list_15 : decode b_On_list 15 = .ok (.aload_n 0, 1) := by decide +kernel
theorem d_On_list_16 : decode b_On_list 16 = .ok (.iload_n 1, 1) := by decide +kernel
theorem d_On_list_17 : decode b_On_list 17 = .ok (.invokevirtual 82, 3) := by decide +kernel
theorem d_On_list_20 : decode b_On_list 20 = .ok (.ifCond .ne 5, 3) := by decide +kernel
theorem d_On_list_23 : decode b_On_list 23 = .ok (.iconst (-1), 1) := by decide +kernel
theorem d_On_list_24 : decode b_On_list 24 = .ok (.ireturn, 1) := by decide +kernel
theorem d_On_list_25 : decode b_On_list 25 = .ok (.aload_n 0, 1) := by decide +kernel
theorem d_On_list_26 : decode b_On_list 26 = .ok (.getfield 23, 3) := by decide +kernel
theorem d_On_list_29 : decode b_On_list 29 = .ok (.iload_n 1, 1) := by decide +kernel
theorem d_On_list_30 : decode b_On_list 30 = .ok (.invokevirtual 109, 3) := by decide +kernel
theorem d_On_list_33 : decode b_On_list 33 = .ok (.ifCond .ge 15, 3) := by decide +kernel
theorem d_On_list_36 : decode b_On_list 36 = .ok (.aload_n 0, 1) := by decide +kernel
theorem d_On_list_37 : decode b_On_list 37 = .ok (.getfield 23, 3) := by decide +kernel
theorem d_On_list_40 : decode b_On_list 40 = .ok (.getfield 118, 3) := by decide +kernel
theorem d_On_list_43 : decode b_On_list 43 = .ok (.bipush 6, 2) := by decide +kernel
theorem d_On_list_45 : decode b_On_list 45 = .ok (.if_icmp .lt 6, 3) := by decide +kernel
theorem d_On_list_48 : decode b_On_list 48 = .ok (.bipush (-3), 2) := by decide +kernel
theorem d_On_list_50 : decode b_On_list 50 = .ok (.ireturn, 1) := by decide +kernel
theorem d_On_list_51 : decode b_On_list 51 = .ok (.aload_n 0, 1) := by decide +kernel
theorem d_On_list_52 : decode b_On_list 52 = .ok (.getfield 23, 3) := by decide +kernel
theorem d_On_list_55 : decode b_On_list 55 = .ok (.getfield 121, 3) := by decide +kernel
theorem d_On_list_58 : decode b_On_list 58 = .ok (.aload_n 0, 1) := by decide +kernel
theorem d_On_list_59 : decode b_On_list 59 = .ok (.getfield 23, 3) := by decide +kernel
theorem d_On_list_62 : decode b_On_list 62 = .ok (.getfield 118, 3) := by decide +kernel
theorem d_On_list_65 : decode b_On_list 65 = .ok (.iload_n 1, 1) := by decide +kernel
theorem d_On_list_66 : decode b_On_list 66 = .ok (.iastore, 1) := by decide +kernel
theorem d_On_list_67 : decode b_On_list 67 = .ok (.aload_n 0, 1) := by decide +kernel
theorem d_On_list_68 : decode b_On_list 68 = .ok (.getfield 23, 3) := by decide +kernel
theorem d_On_list_71 : decode b_On_list 71 = .ok (.dup, 1) := by decide +kernel
theorem d_On_list_72 : decode b_On_list 72 = .ok (.getfield 118, 3) := by decide +kernel
theorem d_On_list_75 : decode b_On_list 75 = .ok (.iconst 1, 1) := by decide +kernel
theorem d_On_list_76 : decode b_On_list 76 = .ok (.iadd, 1) := by decide +kernel
theorem d_On_list_77 : decode b_On_list 77 = .ok (.putfield 118, 3) := by decide +kernel
theorem d_On_list_80 : decode b_On_list 80 = .ok (.aload_n 0, 1) := by decide +kernel
theorem d_On_list_81 : decode b_On_list 81 = .ok (.getfield 23, 3) := by decide +kernel
theorem d_On_list_84 : decode b_On_list 84 = .ok (.getfield 118, 3) := by decide +kernel
theorem d_On_list_87 : decode b_On_list 87 = .ok (.ireturn, 1) := by decide +kernel
theorem d_On_swap_0 : decode b_On_swap 0 = .ok (.aload_n 0, 1) := by decide +kernel
theorem d_On_swap_1 : decode b_On_swap 1 = .ok (.iload_n 1, 1) := by decide +kernel
theorem d_On_swap_2 : decode b_On_swap 2 = .ok (.invokevirtual 82, 3) := by decide +kernel
theorem d_On_swap_5 : decode b_On_swap 5 = .ok (.ifCond .eq 11, 3) := by decide +kernel
theorem d_On_swap_8 : decode b_On_swap 8 = .ok (.aload_n 0, 1) := by decide +kernel
theorem d_On_swap_9 : decode b_On_swap 9 = .ok (.iload_n 2, 1) := by decide +kernel
theorem d_On_swap_10 : decode b_On_swap 10 = .ok (.invokevirtual 82, 3) := by decide +kernel
theorem d_On_swap_13 : decode b_On_swap 13 = .ok (.ifCond .ne 5, 3) := by decide +kernel
theorem d_On_swap_16 : decode b_On_swap 16 = .ok (.iconst (-1), 1) := by decide +kernel
theorem d_On_swap_17 : decode b_On_swap 17 = .ok (.ireturn, 1) := by decide +kernel
theorem d_On_swap_18 : decode b_On_swap 18 = .ok (.iload_n 1, 1) := by decide +kernel
theorem d_On_swap_19 : decode b_On_swap 19 = .ok (.iload_n 2, 1) := by decide +kernel
theorem d_On_swap_20 : decode b_On_swap 20 = .ok (.if_icmp .ne 6, 3) := by decide +kernel
theorem d_On_swap_23 : decode b_On_swap 23 = .ok (.bipush (-2), 2) := by decide +kernel
theorem d_On_swap_25 : decode b_On_swap 25 = .ok (.ireturn, 1) := by decide +kernel
theorem d_On_swap_26 : decode b_On_swap 26 = .ok (.aload_n 0, 1) := by decide +kernel
theorem d_On_swap_27 : decode b_On_swap 27 = .ok (.getfield 23, 3) := by decide +kernel
theorem d_On_swap_30 : decode b_On_swap 30 = .ok (.iload_n 1, 1) := by decide +kernel
theorem d_On_swap_31 : decode b_On_swap 31 = .ok (.invokevirtual 109, 3) := by decide +kernel
theorem d_On_swap_34 : decode b_On_swap 34 = .ok (.istore_n 3, 1) := by decide +kernel
theorem d_On_swap_35 : decode b_On_swap 35 = .ok (.aload_n 0, 1) := by decide +kernel
theorem d_On_swap_36 : decode b_On_swap 36 = .ok (.getfield 23, 3) := by decide +kernel
theorem d_On_swap_39 : decode b_On_swap 39 = .ok (.iload_n 2, 1) := by decide +kernel
theorem d_On_swap_40 : decode b_On_swap 40 = .ok (.invokevirtual 109, 3) := by decide +kernel
theorem d_On_swap_43 : decode b_On_swap 43 = .ok (.istore 4, 2) := by decide +kernel
theorem d_On_swap_45 : decode b_On_swap 45 = .ok (.iload_n 3, 1) := by decide +kernel
theorem d_On_swap_46 : decode b_On_swap 46 = .ok (.ifCond .lt 8, 3) := by decide +kernel
theorem d_On_swap_49 : decode b_On_swap 49 = .ok (.iload 4, 2) := by decide +kernel
theorem d_On_swap_51 : decode b_On_swap 51 = .ok (.ifCond .ge 6, 3) := by decide +kernel
theorem d_On_swap_54 : decode b_On_swap 54 = .ok (.bipush (-3), 2) := by decide +kernel
theorem d_On_swap_56 : decode b_On_swap 56 = .ok (.ireturn, 1) := by decide +kernel
theorem d_On_swap_57 : decode b_On_swap 57 = .ok (.aload_n 0, 1) := by decide +kernel
theorem d_On_swap_58 : decode b_On_swap 58 = .ok (.getfield 23, 3) := by decide +kernel
theorem d_On_swap_61 : decode b_On_swap 61 = .ok (.getfield 121, 3) := by decide +kernel
theorem d_On_swap_64 : decode b_On_swap 64 = .ok (.iload_n 3, 1) := by decide +kernel
theorem d_On_swap_65 : decode b_On_swap 65 = .ok (.iload_n 2, 1) := by decide +kernel
theorem d_On_swap_66 : decode b_On_swap 66 = .ok (.iastore, 1) := by decide +kernel
theorem d_On_swap_67 : decode b_On_swap 67 = .ok (.aload_n 0, 1) := by decide +kernel
theorem d_On_swap_68 : decode b_On_swap 68 = .ok (.getfield 23, 3) := by decide +kernel
theorem d_On_swap_71 : decode b_On_swap 71 = .ok (.getfield 121, 3) := by decide +kernel
theorem d_On_swap_74 : decode b_On_swap 74 = .ok (.iload 4, 2) := by decide +kernel
theorem d_On_swap_76 : decode b_On_swap 76 = .ok (.iload_n 1, 1) := by decide +kernel
theorem d_On_swap_77 : decode b_On_swap 77 = .ok (.iastore, 1) := by decide +kernel
theorem d_On_swap_78 : decode b_On_swap 78 = .ok (.iload 4, 2) := by decide +kernel
theorem d_On_swap_80 : decode b_On_swap 80 = .ok (.ireturn, 1) := by decide +kernel
theorem d_On_row_0 : decode b_On_row 0 = .ok (.aload_n 0, 1) := by decide +kernel
theorem d_On_row_1 : decode b_On_row 1 = .ok (.iload_n 1, 1) := by decide +kernel
theorem d_On_row_2 : decode b_On_row 2 = .ok (.invokevirtual 82, 3) := by decide +kernel
theorem d_On_row_5 : decode b_On_row 5 = .ok (.ifCond .eq 12, 3) := by decide +kernel
theorem d_On_row_8 : decode b_On_row 8 = .ok (.iload_n 2, 1) := by decide +kernel
theorem d_On_row_9 : decode b_On_row 9 = .ok (.iconst 0, 1) := by decide +kernel
theorem d_On_row_10 : decode b_On_row 10 = .ok (.iconst 3, 1) := by decide +kernel
theorem d_On_row_11 : decode b_On_row 11 = .ok (.invokestatic 64, 3) := by decide +kernel
theorem d_On_row_14 : decode b_On_row 14 = .ok (.ifCond .ne 5, 3) := by decide +kernel
theorem d_On_row_17 : decode b_On_row 17 = .ok (.iconst (-1), 1) := by decide +kernel
theorem d_On_row_18 : decode b_On_row 18 = .ok (.ireturn, 1) := by decide +kernel
theorem d_On_row_19 : decode b_On_row 19 = .ok (.iload_n 3, 1) := by decide +kernel
theorem d_On_row_20 : decode b_On_row 20 = .ok (.iconst 0, 1) := by decide +kernel
theorem d_On_row_21 : decode b_On_row 21 = .ok (.bipush 9, 2) := by decide +kernel
theorem d_On_row_23 : decode b_On_row 23 = .ok (.invokestatic 64, 3) := by decide +kernel
theorem d_On_row_26 : decode b_On_row 26 = .ok (.ifCond .ne 6, 3) := by decide +kernel
theorem d_On_row_29 : decode b_On_row 29 = .ok (.bipush (-2), 2) := by decide +kernel
theorem d_On_row_31 : decode b_On_row 31 = .ok (.ireturn, 1) := by decide +kernel
theorem d_On_row_32 : decode b_On_row 32 = .ok (.aload_n 0, 1) := by decide +kernel
theorem d_On_row_33 : decode b_On_row 33 = .ok (.getfield 23, 3) := by decide +kernel
theorem d_On_row_36 : decode b_On_row 36 = .ok (.getfield 72, 3) := by decide +kernel
theorem d_On_row_39 : decode b_On_row 39 = .ok (.iload_n 1, 1) := by decide +kernel
theorem d_On_row_40 : decode b_On_row 40 = .ok (.aaload, 1) := by decide +kernel
theorem d_On_row_41 : decode b_On_row 41 = .ok (.astore 4, 2) := by decide +kernel
theorem d_On_row_43 : decode b_On_row 43 = .ok (.aload 4, 2) := by decide +kernel
theorem d_On_row_45 : decode b_On_row 45 = .ok (.getfield 86, 3) := by decide +kernel
theorem d_On_row_48 : decode b_On_row 48 = .ok (.bipush 6, 2) := by decide +kernel
theorem d_On_row_50 : decode b_On_row 50 = .ok (.if_icmp .eq 6, 3) := by decide +kernel
theorem d_On_row_53 : decode b_On_row 53 = .ok (.bipush (-3), 2) := by decide +kernel
theorem d_On_row_55 : decode b_On_row 55 = .ok (.ireturn, 1) := by decide +kernel
theorem d_On_row_56 : decode b_On_row 56 = .ok (.aload 4, 2) := by decide +kernel
theorem d_On_row_58 : decode b_On_row 58 = .ok (.getfield 125, 3) := by decide +kernel
theorem d_On_row_61 : decode b_On_row 61 = .ok (.iload_n 2, 1) := by decide +kernel
theorem d_On_row_62 : decode b_On_row 62 = .ok (.iaload, 1) := by decide +kernel
theorem d_On_row_63 : decode b_On_row 63 = .ok (.istore 5, 2) := by decide +kernel
theorem d_On_row_65 : decode b_On_row 65 = .ok (.aload 4, 2) := by decide +kernel
theorem d_On_row_67 : decode b_On_row 67 = .ok (.getfield 125, 3) := by decide +kernel
theorem d_On_row_70 : decode b_On_row 70 = .ok (.iload_n 2, 1) := by decide +kernel
theorem d_On_row_71 : decode b_On_row 71 = .ok (.iload_n 3, 1) := by decide +kernel
theorem d_On_row_72 : decode b_On_row 72 = .ok (.iastore, 1) := by decide +kernel
theorem d_On_row_73 : decode b_On_row 73 = .ok (.iload 5, 2) := by decide +kernel
theorem d_On_row_75 : decode b_On_row 75 = .ok (.ireturn, 1) := by decide +kernel
theorem d_On_feed_0 : decode b_On_feed 0 = .ok (.iload_n 1, 1) := by decide +kernel
theorem d_On_feed_1 : decode b_On_feed 1 = .ok (.iconst 0, 1) := by decide +kernel
theorem d_On_feed_2 : decode b_On_feed 2 = .ok (.bipush 127, 2) := by decide +kernel
theorem d_On_feed_4 : decode b_On_feed 4 = .ok (.invokestatic 64, 3) := by decide +kernel
theorem d_On_feed_7 : decode b_On_feed 7 = .ok (.ifCond .ne 6, 3) := by decide +kernel
theorem d_On_feed_10 : decode b_On_feed 10 = .ok (.bipush (-2), 2) := by decide +kernel
theorem d_On_feed_12 : decode b_On_feed 12 = .ok (.ireturn, 1) := by decide +kernel
theorem d_On_feed_13 : decode b_On_feed 13 = .ok (.aload_n 0, 1) := by decide +kernel
theorem d_On_feed_14 : decode b_On_feed 14 = .ok (.getfield 36, 3) := by decide +kernel
theorem d_On_feed_17 : decode b_On_feed 17 = .ok (.getfield 128, 3) := by decide +kernel
theorem d_On_feed_20 : decode b_On_feed 20 = .ok (.bipush 100, 2) := by decide +kernel
theorem d_On_feed_22 : decode b_On_feed 22 = .ok (.if_icmp .lt 6, 3) := by decide +kernel
theorem d_On_feed_25 : decode b_On_feed 25 = .ok (.bipush (-4), 2) := by decide +kernel
theorem d_On_feed_27 : decode b_On_feed 27 = .ok (.ireturn, 1) := by decide +kernel
theorem d_On_feed_28 : decode b_On_feed 28 = .ok (.aload_n 0, 1) := by decide +kernel
theorem d_On_feed_29 : decode b_On_feed 29 = .ok (.getfield 36, 3) := by decide +kernel
theorem d_On_feed_32 : decode b_On_feed 32 = .ok (.getfield 131, 3) := by decide +kernel
theorem d_On_feed_35 : decode b_On_feed 35 = .ok (.aload_n 0, 1) := by decide +kernel
theorem d_On_feed_36 : decode b_On_feed 36 = .ok (.getfield 36, 3) := by decide +kernel
theorem d_On_feed_39 : decode b_On_feed 39 = .ok (.getfield 128, 3) := by decide +kernel
theorem d_On_feed_42 : decode b_On_feed 42 = .ok (.iload_n 1, 1) := by decide +kernel
theorem d_On_feed_43 : decode b_On_feed 43 = .ok (.i2b, 1) := by decide +kernel
theorem d_On_feed_44 : decode b_On_feed 44 = .ok (.bastore, 1) := by decide +kernel
theorem d_On_feed_45 : decode b_On_feed 45 = .ok (.aload_n 0, 1) := by decide +kernel
theorem d_On_feed_46 : decode b_On_feed 46 = .ok (.getfield 36, 3) := by decide +kernel
theorem d_On_feed_49 : decode b_On_feed 49 = .ok (.dup, 1) := by decide +kernel
theorem d_On_feed_50 : decode b_On_feed 50 = .ok (.getfield 128, 3) := by decide +kernel
theorem d_On_feed_53 : decode b_On_feed 53 = .ok (.iconst 1, 1) := by decide +kernel
theorem d_On_feed_54 : decode b_On_feed 54 = .ok (.iadd, 1) := by decide +kernel
theorem d_On_feed_55 : decode b_On_feed 55 = .ok (.putfield 128, 3) := by decide +kernel
theorem d_On_feed_58 : decode b_On_feed 58 = .ok (.aload_n 0, 1) := by decide +kernel
theorem d_On_feed_59 : decode b_On_feed 59 = .ok (.getfield 36, 3) := by decide +kernel
theorem d_On_feed_62 : decode b_On_feed 62 = .ok (.getfield 128, 3) := by decide +kernel
theorem d_On_feed_65 : decode b_On_feed 65 = .ok (.ireturn, 1) := by decide +kernel
theorem d_On_island_0 : decode b_On_island 0 = .ok (.aload_n 0, 1) := by decide +kernel
theorem d_On_island_1 : decode b_On_island 1 = .ok (.getfield 135, 3) := by decide +kernel
theorem d_On_island_4 : decode b_On_island 4 = .ok (.bipush 6, 2) := by decide +kernel
theorem d_On_island_6 : decode b_On_island 6 = .ok (.if_icmp .lt 6, 3) := by decide +kernel
theorem d_On_island_9 : decode b_On_island 9 = .ok (.bipush (-4), 2) := by decide +kernel
theorem d_On_island_11 : decode b_On_island 11 = .ok (.ireturn, 1) := by decide +kernel
theorem d_On_island_12 : decode b_On_island 12 = .ok (.aload_n 0, 1) := by decide +kernel
theorem d_On_island_13 : decode b_On_island 13 = .ok (.getfield 36, 3) := by decide +kernel
theorem d_On_island_16 : decode b_On_island 16 = .ok (.aload_n 0, 1) := by decide +kernel
theorem d_On_island_17 : decode b_On_island 17 = .ok (.getfield 40, 3) := by decide +kernel
theorem d_On_island_20 : decode b_On_island 20 = .ok (.invokevirtual 138, 3) := by decide +kernel
theorem d_On_island_23 : decode b_On_island 23 = .ok (.istore_n 1, 1) := by decide +kernel
theorem d_On_island_24 : decode b_On_island 24 = .ok (.aload_n 0, 1) := by decide +kernel
theorem d_On_island_25 : decode b_On_island 25 = .ok (.getfield 36, 3) := by decide +kernel
theorem d_On_island_28 : decode b_On_island 28 = .ok (.iconst 0, 1) := by decide +kernel
theorem d_On_island_29 : decode b_On_island 29 = .ok (.putfield 128, 3) := by decide +kernel
theorem d_On_island_32 : decode b_On_island 32 = .ok (.iload_n 1, 1) := by decide +kernel
theorem d_On_island_33 : decode b_On_island 33 = .ok (.ifCond .ne 14, 3) := by decide +kernel
theorem d_On_island_36 : decode b_On_island 36 = .ok (.bipush (-10), 2) := by decide +kernel
theorem d_On_island_38 : decode b_On_island 38 = .ok (.aload_n 0, 1) := by decide +kernel
theorem d_On_island_39 : decode b_On_island 39 = .ok (.getfield 36, 3) := by decide +kernel
theorem d_On_island_42 : decode b_On_island 42 = .ok (.getfield 142, 3) := by decide +kernel
theorem d_On_island_45 : decode b_On_island 45 = .ok (.isub, 1) := by decide +kernel
theorem d_On_island_46 : decode b_On_island 46 = .ok (.ireturn, 1) := by decide +kernel
theorem d_On_island_47 : decode b_On_island 47 = .ok (.aload_n 0, 1) := by decide +kernel
theorem d_On_island_48 : decode b_On_island 48 = .ok (.getfield 23, 3) := by decide +kernel
theorem d_On_island_51 : decode b_On_island 51 = .ok (.aload_n 0, 1) := by decide +kernel
theorem d_On_island_52 : decode b_On_island 52 = .ok (.getfield 40, 3) := by decide +kernel
theorem d_On_island_55 : decode b_On_island 55 = .ok (.putfield 145, 3) := by decide +kernel
theorem d_On_island_58 : decode b_On_island 58 = .ok (.aload_n 0, 1) := by decide +kernel
theorem d_On_island_59 : decode b_On_island 59 = .ok (.new 9, 3) := by decide +kernel
theorem d_On_island_62 : decode b_On_island 62 = .ok (.dup, 1) := by decide +kernel
theorem d_On_island_63 : decode b_On_island 63 = .ok (.invokespecial 11, 3) := by decide +kernel
theorem d_On_island_66 : decode b_On_island 66 = .ok (.putfield 40, 3) := by decide +kernel
theorem d_On_island_69 : decode b_On_island 69 = .ok (.aload_n 0, 1) := by decide +kernel
theorem d_On_island_70 : decode b_On_island 70 = .ok (.dup, 1) := by decide +kernel
theorem d_On_island_71 : decode b_On_island 71 = .ok (.getfield 135, 3) := by decide +kernel
theorem d_On_island_74 : decode b_On_island 74 = .ok (.iconst 1, 1) := by decide +kernel
theorem d_On_island_75 : decode b_On_island 75 = .ok (.iadd, 1) := by decide +kernel
theorem d_On_island_76 : decode b_On_island 76 = .ok (.putfield 135, 3) := by decide +kernel
theorem d_On_island_79 : decode b_On_island 79 = .ok (.aload_n 0, 1) := by decide +kernel
theorem d_On_island_80 : decode b_On_island 80 = .ok (.getfield 135, 3) := by decide +kernel
theorem d_On_island_83 : decode b_On_island 83 = .ok (.iconst 1, 1) := by decide +kernel
theorem d_On_island_84 : decode b_On_island 84 = .ok (.isub, 1) := by decide +kernel
theorem d_On_island_85 : decode b_On_island 85 = .ok (.ireturn, 1) := by decide +kernel
theorem d_On_told_0 : decode b_On_told 0 = .ok (.iload_n 1, 1) := by decide +kernel
theorem d_On_told_1 : decode b_On_told 1 = .ok (.tableswitch 150 0 8 #[51, 59, 70, 88, 96, 104, 112, 124, 137], 51) := by decide +kernel
theorem d_On_told_52 : decode b_On_told 52 = .ok (.aload_n 0, 1) := by decide +kernel
theorem d_On_told_53 : decode b_On_told 53 = .ok (.getfield 23, 3) := by decide +kernel
theorem d_On_told_56 : decode b_On_told 56 = .ok (.getfield 148, 3) := by decide +kernel
theorem d_On_told_59 : decode b_On_told 59 = .ok (.ireturn, 1) := by decide +kernel
theorem d_On_told_60 : decode b_On_told 60 = .ok (.aload_n 0, 1) := by decide +kernel
theorem d_On_told_61 : decode b_On_told 61 = .ok (.getfield 23, 3) := by decide +kernel
theorem d_On_told_64 : decode b_On_told 64 = .ok (.getfield 145, 3) := by decide +kernel
theorem d_On_told_67 : decode b_On_told 67 = .ok (.getfield 151, 3) := by decide +kernel
theorem d_On_told_70 : decode b_On_told 70 = .ok (.ireturn, 1) := by decide +kernel
theorem d_On_told_71 : decode b_On_told 71 = .ok (.aload_n 0, 1) := by decide +kernel
theorem d_On_told_72 : decode b_On_told 72 = .ok (.getfield 23, 3) := by decide +kernel
theorem d_On_told_75 : decode b_On_told 75 = .ok (.aload_n 0, 1) := by decide +kernel
theorem d_On_told_76 : decode b_On_told 76 = .ok (.getfield 23, 3) := by decide +kernel
theorem d_On_told_79 : decode b_On_told 79 = .ok (.getfield 148, 3) := by decide +kernel
theorem d_On_told_82 : decode b_On_told 82 = .ok (.invokevirtual 154, 3) := by decide +kernel
theorem d_On_told_85 : decode b_On_told 85 = .ok (.invokestatic 105, 3) := by decide +kernel
theorem d_On_told_88 : decode b_On_told 88 = .ok (.ireturn, 1) := by decide +kernel
theorem d_On_told_89 : decode b_On_told 89 = .ok (.aload_n 0, 1) := by decide +kernel
theorem d_On_told_90 : decode b_On_told 90 = .ok (.getfield 23, 3) := by decide +kernel
theorem d_On_told_93 : decode b_On_told 93 = .ok (.invokevirtual 157, 3) := by decide +kernel
theorem d_On_told_96 : decode b_On_told 96 = .ok (.ireturn, 1) := by decide +kernel
theorem d_On_told_97 : decode b_On_told 97 = .ok (.aload_n 0, 1) := by decide +kernel
theorem d_On_told_98 : decode b_On_told 98 = .ok (.getfield 23, 3) := by decide +kernel
theorem d_On_told_101 : decode b_On_told 101 = .ok (.invokevirtual 161, 3) := by decide +kernel
theorem d_On_told_104 : decode b_On_told 104 = .ok (.ireturn, 1) := by decide +kernel
theorem d_On_told_105 : decode b_On_told 105 = .ok (.aload_n 0, 1) := by decide +kernel
theorem d_On_told_106 : decode b_On_told 106 = .ok (.getfield 23, 3) := by decide +kernel
theorem d_On_told_109 : decode b_On_told 109 = .ok (.invokevirtual 164, 3) := by decide +kernel
theorem d_On_told_112 : decode b_On_told 112 = .ok (.ireturn, 1) := by decide +kernel
theorem d_On_told_113 : decode b_On_told 113 = .ok (.aload_n 0, 1) := by decide +kernel
theorem d_On_told_114 : decode b_On_told 114 = .ok (.getfield 46, 3) := by decide +kernel
theorem d_On_told_117 : decode b_On_told 117 = .ok (.aload_n 0, 1) := by decide +kernel
theorem d_On_told_118 : decode b_On_told 118 = .ok (.getfield 23, 3) := by decide +kernel
theorem d_On_told_121 : decode b_On_told 121 = .ok (.invokevirtual 167, 3) := by decide +kernel
theorem d_On_told_124 : decode b_On_told 124 = .ok (.ireturn, 1) := by decide +kernel
theorem d_On_told_125 : decode b_On_told 125 = .ok (.aload_n 0, 1) := by decide +kernel
theorem d_On_told_126 : decode b_On_told 126 = .ok (.getfield 46, 3) := by decide +kernel
theorem d_On_told_129 : decode b_On_told 129 = .ok (.aload_n 0, 1) := by decide +kernel
theorem d_On_told_130 : decode b_On_told 130 = .ok (.getfield 23, 3) := by decide +kernel
theorem d_On_told_133 : decode b_On_told 133 = .ok (.iconst 0, 1) := by decide +kernel
theorem d_On_told_134 : decode b_On_told 134 = .ok (.invokevirtual 171, 3) := by decide +kernel
theorem d_On_told_137 : decode b_On_told 137 = .ok (.ireturn, 1) := by decide +kernel
theorem d_On_told_138 : decode b_On_told 138 = .ok (.aload_n 0, 1) := by decide +kernel
theorem d_On_told_139 : decode b_On_told 139 = .ok (.getfield 46, 3) := by decide +kernel
theorem d_On_told_142 : decode b_On_told 142 = .ok (.aload_n 0, 1) := by decide +kernel
theorem d_On_told_143 : decode b_On_told 143 = .ok (.getfield 23, 3) := by decide +kernel
theorem d_On_told_146 : decode b_On_told 146 = .ok (.iconst 1, 1) := by decide +kernel
theorem d_On_told_147 : decode b_On_told 147 = .ok (.invokevirtual 171, 3) := by decide +kernel
theorem d_On_told_150 : decode b_On_told 150 = .ok (.ireturn, 1) := by decide +kernel
theorem d_On_told_151 : decode b_On_told 151 = .ok (.iconst (-1), 1) := by decide +kernel
theorem d_On_told_152 : decode b_On_told 152 = .ok (.ireturn, 1) := by decide +kernel
theorem d_On_pass_0 : decode b_On_pass 0 = .ok (.iload_n 1, 1) := by decide +kernel
theorem d_On_pass_1 : decode b_On_pass 1 = .ok (.iconst 0, 1) := by decide +kernel
theorem d_On_pass_2 : decode b_On_pass 2 = .ok (.bipush 60, 2) := by decide +kernel
theorem d_On_pass_4 : decode b_On_pass 4 = .ok (.invokestatic 64, 3) := by decide +kernel
theorem d_On_pass_7 : decode b_On_pass 7 = .ok (.ifCond .ne 6, 3) := by decide +kernel
theorem d_On_pass_10 : decode b_On_pass 10 = .ok (.bipush (-2), 2) := by decide +kernel
theorem d_On_pass_12 : decode b_On_pass 12 = .ok (.ireturn, 1) := by decide +kernel
theorem d_On_pass_13 : decode b_On_pass 13 = .ok (.aload_n 0, 1) := by decide +kernel
theorem d_On_pass_14 : decode b_On_pass 14 = .ok (.getfield 23, 3) := by decide +kernel
theorem d_On_pass_17 : decode b_On_pass 17 = .ok (.getfield 148, 3) := by decide +kernel
theorem d_On_pass_20 : decode b_On_pass 20 = .ok (.iload_n 1, 1) := by decide +kernel
theorem d_On_pass_21 : decode b_On_pass 21 = .ok (.iadd, 1) := by decide +kernel
theorem d_On_pass_22 : decode b_On_pass 22 = .ok (.sipush 9999, 3) := by decide +kernel
theorem d_On_pass_25 : decode b_On_pass 25 = .ok (.if_icmp .le 6, 3) := by decide +kernel
theorem d_On_pass_28 : decode b_On_pass 28 = .ok (.bipush (-3), 2) := by decide +kernel
theorem d_On_pass_30 : decode b_On_pass 30 = .ok (.ireturn, 1) := by decide +kernel
theorem d_On_pass_31 : decode b_On_pass 31 = .ok (.aload_n 0, 1) := by decide +kernel
theorem d_On_pass_32 : decode b_On_pass 32 = .ok (.getfield 23, 3) := by decide +kernel
theorem d_On_pass_35 : decode b_On_pass 35 = .ok (.iload_n 1, 1) := by decide +kernel
theorem d_On_pass_36 : decode b_On_pass 36 = .ok (.ldc 117, 2) := by decide +kernel
theorem d_On_pass_38 : decode b_On_pass 38 = .ok (.invokevirtual 175, 3) := by decide +kernel
theorem d_On_pass_41 : decode b_On_pass 41 = .ok (.aload_n 0, 1) := by decide +kernel
theorem d_On_pass_42 : decode b_On_pass 42 = .ok (.getfield 23, 3) := by decide +kernel
theorem d_On_pass_45 : decode b_On_pass 45 = .ok (.getfield 148, 3) := by decide +kernel
theorem d_On_pass_48 : decode b_On_pass 48 = .ok (.ireturn, 1) := by decide +kernel
theorem d_On_on_0 : decode b_On_on 0 = .ok (.iload_n 2, 1) := by decide +kernel
theorem d_On_on_1 : decode b_On_on 1 = .ok (.bipush 10, 2) := by decide +kernel
theorem d_On_on_3 : decode b_On_on 3 = .ok (.if_icmp .lt 18, 3) := by decide +kernel
theorem d_On_on_6 : decode b_On_on 6 = .ok (.aload_n 0, 1) := by decide +kernel
theorem d_On_on_7 : decode b_On_on 7 = .ok (.iload_n 2, 1) := by decide +kernel
theorem d_On_on_8 : decode b_On_on 8 = .ok (.bipush 10, 2) := by decide +kernel
theorem d_On_on_10 : decode b_On_on 10 = .ok (.isub, 1) := by decide +kernel
theorem d_On_on_11 : decode b_On_on 11 = .ok (.invokevirtual 82, 3) := by decide +kernel
theorem d_On_on_14 : decode b_On_on 14 = .ok (.ifCond .eq 7, 3) := by decide +kernel
theorem d_On_on_17 : decode b_On_on 17 = .ok (.iconst 1, 1) := by decide +kernel
theorem d_On_on_18 : decode b_On_on 18 = .ok (.goto 4, 3) := by decide +kernel
theorem d_On_on_21 : decode b_On_on 21 = .ok (.iconst 0, 1) := by decide +kernel
theorem d_On_on_22 : decode b_On_on 22 = .ok (.istore_n 3, 1) := by decide +kernel
theorem d_On_on_23 : decode b_On_on 23 = .ok (.iload_n 2, 1) := by decide +kernel
theorem d_On_on_24 : decode b_On_on 24 = .ok (.ifCond .eq 14, 3) := by decide +kernel
theorem d_On_on_27 : decode b_On_on 27 = .ok (.iload_n 2, 1) := by decide +kernel
theorem d_On_on_28 : decode b_On_on 28 = .ok (.iconst 1, 1) := by decide +kernel
theorem d_On_on_29 : decode b_On_on 29 = .ok (.if_icmp .eq 9, 3) := by decide +kernel
theorem d_On_on_32 : decode b_On_on 32 = .ok (.iload_n 3, 1) := by decide +kernel
theorem d_On_on_33 : decode b_On_on 33 = .ok (.ifCond .ne 5, 3) := by decide +kernel
theorem d_On_on_36 : decode b_On_on 36 = .ok (.iconst (-1), 1) := by decide +kernel
theorem d_On_on_37 : decode b_On_on 37 = .ok (.ireturn, 1) := by decide +kernel
theorem d_On_on_38 : decode b_On_on 38 = .ok (.iload_n 1, 1) := by decide +kernel
theorem d_On_on_39 : decode b_On_on 39 = .ok (.iconst 0, 1) := by decide +kernel
theorem d_On_on_40 : decode b_On_on 40 = .ok (.bipush 60, 2) := by decide +kernel
theorem d_On_on_42 : decode b_On_on 42 = .ok (.invokestatic 64, 3) := by decide +kernel
theorem d_On_on_45 : decode b_On_on 45 = .ok (.ifCond .ne 6, 3) := by decide +kernel
theorem d_On_on_48 : decode b_On_on 48 = .ok (.bipush (-2), 2) := by decide +kernel
theorem d_On_on_50 : decode b_On_on 50 = .ok (.ireturn, 1) := by decide +kernel
theorem d_On_on_51 : decode b_On_on 51 = .ok (.aload_n 0, 1) := by decide +kernel
theorem d_On_on_52 : decode b_On_on 52 = .ok (.getfield 27, 3) := by decide +kernel
theorem d_On_on_55 : decode b_On_on 55 = .ok (.aload_n 0, 1) := by decide +kernel
theorem d_On_on_56 : decode b_On_on 56 = .ok (.getfield 23, 3) := by decide +kernel
theorem d_On_on_59 : decode b_On_on 59 = .ok (.invokevirtual 179, 3) := by decide +kernel
theorem d_On_on_62 : decode b_On_on 62 = .ok (.aload_n 0, 1) := by decide +kernel
theorem d_On_on_63 : decode b_On_on 63 = .ok (.getfield 27, 3) := by decide +kernel
theorem d_On_on_66 : decode b_On_on 66 = .ok (.iload_n 1, 1) := by decide +kernel
theorem d_On_on_67 : decode b_On_on 67 = .ok (.ldc 183, 2) := by decide +kernel
theorem d_On_on_69 : decode b_On_on 69 = .ok (.invokevirtual 175, 3) := by decide +kernel
theorem d_On_on_72 : decode b_On_on 72 = .ok (.iload_n 3, 1) := by decide +kernel
theorem d_On_on_73 : decode b_On_on 73 = .ok (.ifCond .eq 19, 3) := by decide +kernel
theorem d_On_on_76 : decode b_On_on 76 = .ok (.aload_n 0, 1) := by decide +kernel
theorem d_On_on_77 : decode b_On_on 77 = .ok (.getfield 27, 3) := by decide +kernel
theorem d_On_on_80 : decode b_On_on 80 = .ok (.getfield 72, 3) := by decide +kernel
theorem d_On_on_83 : decode b_On_on 83 = .ok (.iload_n 2, 1) := by decide +kernel
theorem d_On_on_84 : decode b_On_on 84 = .ok (.bipush 10, 2) := by decide +kernel
theorem d_On_on_86 : decode b_On_on 86 = .ok (.isub, 1) := by decide +kernel
theorem d_On_on_87 : decode b_On_on 87 = .ok (.aaload, 1) := by decide +kernel
theorem d_On_on_88 : decode b_On_on 88 = .ok (.getfield 98, 3) := by decide +kernel
theorem d_On_on_91 : decode b_On_on 91 = .ok (.ireturn, 1) := by decide +kernel
theorem d_On_on_92 : decode b_On_on 92 = .ok (.iload_n 2, 1) := by decide +kernel
theorem d_On_on_93 : decode b_On_on 93 = .ok (.ifCond .ne 13, 3) := by decide +kernel
theorem d_On_on_96 : decode b_On_on 96 = .ok (.aload_n 0, 1) := by decide +kernel
theorem d_On_on_97 : decode b_On_on 97 = .ok (.getfield 27, 3) := by decide +kernel
theorem d_On_on_100 : decode b_On_on 100 = .ok (.invokevirtual 157, 3) := by decide +kernel
theorem d_On_on_103 : decode b_On_on 103 = .ok (.goto 10, 3) := by decide +kernel
theorem d_On_on_106 : decode b_On_on 106 = .ok (.aload_n 0, 1) := by decide +kernel
theorem d_On_on_107 : decode b_On_on 107 = .ok (.getfield 27, 3) := by decide +kernel
theorem d_On_on_110 : decode b_On_on 110 = .ok (.invokevirtual 161, 3) := by decide +kernel
theorem d_On_on_113 : decode b_On_on 113 = .ok (.ireturn, 1) := by decide +kernel
theorem d_On_turn_0 : decode b_On_turn 0 = .ok (.aload_n 0, 1) := by decide +kernel
theorem d_On_turn_1 : decode b_On_turn 1 = .ok (.iload_n 1, 1) := by decide +kernel
theorem d_On_turn_2 : decode b_On_turn 2 = .ok (.invokevirtual 82, 3) := by decide +kernel
theorem d_On_turn_5 : decode b_On_turn 5 = .ok (.ifCond .ne 5, 3) := by decide +kernel
theorem d_On_turn_8 : decode b_On_turn 8 = .ok (.iconst (-1), 1) := by decide +kernel
theorem d_On_turn_9 : decode b_On_turn 9 = .ok (.ireturn, 1) := by decide +kernel
theorem d_On_turn_10 : decode b_On_turn 10 = .ok (.aload_n 0, 1) := by decide +kernel
theorem d_On_turn_11 : decode b_On_turn 11 = .ok (.getfield 27, 3) := by decide +kernel
theorem d_On_turn_14 : decode b_On_turn 14 = .ok (.aload_n 0, 1) := by decide +kernel
theorem d_On_turn_15 : decode b_On_turn 15 = .ok (.getfield 23, 3) := by decide +kernel
theorem d_On_turn_18 : decode b_On_turn 18 = .ok (.invokevirtual 179, 3) := by decide +kernel
theorem d_On_turn_21 : decode b_On_turn 21 = .ok (.iconst 0, 1) := by decide +kernel
theorem d_On_turn_22 : decode b_On_turn 22 = .ok (.istore_n 2, 1) := by decide +kernel
theorem d_On_turn_23 : decode b_On_turn 23 = .ok (.iload_n 2, 1) := by decide +kernel
theorem d_On_turn_24 : decode b_On_turn 24 = .ok (.bipush 60, 2) := by decide +kernel
theorem d_On_turn_26 : decode b_On_turn 26 = .ok (.if_icmp .gt 36, 3) := by decide +kernel
theorem d_On_turn_29 : decode b_On_turn 29 = .ok (.aload_n 0, 1) := by decide +kernel
theorem d_On_turn_30 : decode b_On_turn 30 = .ok (.getfield 27, 3) := by decide +kernel
theorem d_On_turn_33 : decode b_On_turn 33 = .ok (.getfield 72, 3) := by decide +kernel
theorem d_On_turn_36 : decode b_On_turn 36 = .ok (.iload_n 1, 1) := by decide +kernel
theorem d_On_turn_37 : decode b_On_turn 37 = .ok (.aaload, 1) := by decide +kernel
theorem d_On_turn_38 : decode b_On_turn 38 = .ok (.getfield 101, 3) := by decide +kernel
theorem d_On_turn_41 : decode b_On_turn 41 = .ok (.ifCond .eq 5, 3) := by decide +kernel
theorem d_On_turn_44 : decode b_On_turn 44 = .ok (.iload_n 2, 1) := by decide +kernel
theorem d_On_turn_45 : decode b_On_turn 45 = .ok (.ireturn, 1) := by decide +kernel
theorem d_On_turn_46 : decode b_On_turn 46 = .ok (.aload_n 0, 1) := by decide +kernel
theorem d_On_turn_47 : decode b_On_turn 47 = .ok (.getfield 27, 3) := by decide +kernel
theorem d_On_turn_50 : decode b_On_turn 50 = .ok (.iconst 1, 1) := by decide +kernel
theorem d_On_turn_51 : decode b_On_turn 51 = .ok (.ldc 183, 2) := by decide +kernel
theorem d_On_turn_53 : decode b_On_turn 53 = .ok (.invokevirtual 175, 3) := by decide +kernel
theorem d_On_turn_56 : decode b_On_turn 56 = .ok (.iinc 2 1, 3) := by decide +kernel
theorem d_On_turn_59 : decode b_On_turn 59 = .ok (.goto (-36), 3) := by decide +kernel
theorem d_On_turn_62 : decode b_On_turn 62 = .ok (.bipush (-5), 2) := by decide +kernel
theorem d_On_turn_64 : decode b_On_turn 64 = .ok (.ireturn, 1) := by decide +kernel
theorem d_On_empty_0 : decode b_On_empty 0 = .ok (.aload_n 0, 1) := by decide +kernel
theorem d_On_empty_1 : decode b_On_empty 1 = .ok (.getfield 27, 3) := by decide +kernel
theorem d_On_empty_4 : decode b_On_empty 4 = .ok (.aload_n 0, 1) := by decide +kernel
theorem d_On_empty_5 : decode b_On_empty 5 = .ok (.getfield 23, 3) := by decide +kernel
theorem d_On_empty_8 : decode b_On_empty 8 = .ok (.invokevirtual 179, 3) := by decide +kernel
theorem d_On_empty_11 : decode b_On_empty 11 = .ok (.iconst 0, 1) := by decide +kernel
theorem d_On_empty_12 : decode b_On_empty 12 = .ok (.istore_n 1, 1) := by decide +kernel
theorem d_On_empty_13 : decode b_On_empty 13 = .ok (.iload_n 1, 1) := by decide +kernel
theorem d_On_empty_14 : decode b_On_empty 14 = .ok (.bipush 60, 2) := by decide +kernel
theorem d_On_empty_16 : decode b_On_empty 16 = .ok (.if_icmp .gt 38, 3) := by decide +kernel
theorem d_On_empty_19 : decode b_On_empty 19 = .ok (.aload_n 0, 1) := by decide +kernel
theorem d_On_empty_20 : decode b_On_empty 20 = .ok (.getfield 27, 3) := by decide +kernel
theorem d_On_empty_23 : decode b_On_empty 23 = .ok (.invokevirtual 161, 3) := by decide +kernel
theorem d_On_empty_26 : decode b_On_empty 26 = .ok (.aload_n 0, 1) := by decide +kernel
theorem d_On_empty_27 : decode b_On_empty 27 = .ok (.getfield 27, 3) := by decide +kernel
theorem d_On_empty_30 : decode b_On_empty 30 = .ok (.getfield 68, 3) := by decide +kernel
theorem d_On_empty_33 : decode b_On_empty 33 = .ok (.if_icmp .ne 5, 3) := by decide +kernel
theorem d_On_empty_36 : decode b_On_empty 36 = .ok (.iload_n 1, 1) := by decide +kernel
theorem d_On_empty_37 : decode b_On_empty 37 = .ok (.ireturn, 1) := by decide +kernel
theorem d_On_empty_38 : decode b_On_empty 38 = .ok (.aload_n 0, 1) := by decide +kernel
theorem d_On_empty_39 : decode b_On_empty 39 = .ok (.getfield 27, 3) := by decide +kernel
theorem d_On_empty_42 : decode b_On_empty 42 = .ok (.iconst 1, 1) := by decide +kernel
theorem d_On_empty_43 : decode b_On_empty 43 = .ok (.ldc 183, 2) := by decide +kernel
theorem d_On_empty_45 : decode b_On_empty 45 = .ok (.invokevirtual 175, 3) := by decide +kernel
theorem d_On_empty_48 : decode b_On_empty 48 = .ok (.iinc 1 1, 3) := by decide +kernel
theorem d_On_empty_51 : decode b_On_empty 51 = .ok (.goto (-38), 3) := by decide +kernel
theorem d_On_empty_54 : decode b_On_empty 54 = .ok (.bipush (-5), 2) := by decide +kernel
theorem d_On_empty_56 : decode b_On_empty 56 = .ok (.ireturn, 1) := by decide +kernel
theorem d_On_best_0 : decode b_On_best 0 = .ok (.iload_n 1, 1) := by decide +kernel
theorem d_On_best_1 : decode b_On_best 1 = .ok (.iconst 0, 1) := by decide +kernel
theorem d_On_best_2 : decode b_On_best 2 = .ok (.iconst 1, 1) := by decide +kernel
theorem d_On_best_3 : decode b_On_best 3 = .ok (.invokestatic 64, 3) := by decide +kernel
theorem d_On_best_6 : decode b_On_best 6 = .ok (.ifCond .eq 12, 3) := by decide +kernel
theorem d_On_best_9 : decode b_On_best 9 = .ok (.iload_n 2, 1) := by decide +kernel
theorem d_On_best_10 : decode b_On_best 10 = .ok (.iconst (-1), 1) := by decide +kernel
theorem d_On_best_11 : decode b_On_best 11 = .ok (.iconst 5, 1) := by decide +kernel
theorem d_On_best_12 : decode b_On_best 12 = .ok (.invokestatic 64, 3) := by decide +kernel
theorem d_On_best_15 : decode b_On_best 15 = .ok (.ifCond .ne 5, 3) := by decide +kernel
theorem d_On_best_18 : decode b_On_best 18 = .ok (.iconst (-1), 1) := by decide +kernel
theorem d_On_best_19 : decode b_On_best 19 = .ok (.ireturn, 1) := by decide +kernel
theorem d_On_best_20 : decode b_On_best 20 = .ok (.aload_n 0, 1) := by decide +kernel
theorem d_On_best_21 : decode b_On_best 21 = .ok (.getfield 46, 3) := by decide +kernel
theorem d_On_best_24 : decode b_On_best 24 = .ok (.aload_n 0, 1) := by decide +kernel
theorem d_On_best_25 : decode b_On_best 25 = .ok (.getfield 23, 3) := by decide +kernel
theorem d_On_best_28 : decode b_On_best 28 = .ok (.iconst 0, 1) := by decide +kernel
theorem d_On_best_29 : decode b_On_best 29 = .ok (.invokevirtual 184, 3) := by decide +kernel
theorem d_On_best_32 : decode b_On_best 32 = .ok (.iload_n 2, 1) := by decide +kernel
theorem d_On_best_33 : decode b_On_best 33 = .ok (.ifCond .ge 25, 3) := by decide +kernel
theorem d_On_best_36 : decode b_On_best 36 = .ok (.iload_n 1, 1) := by decide +kernel
theorem d_On_best_37 : decode b_On_best 37 = .ok (.ifCond .ne 13, 3) := by decide +kernel
theorem d_On_best_40 : decode b_On_best 40 = .ok (.aload_n 0, 1) := by decide +kernel
theorem d_On_best_41 : decode b_On_best 41 = .ok (.getfield 46, 3) := by decide +kernel
theorem d_On_best_44 : decode b_On_best 44 = .ok (.getfield 188, 3) := by decide +kernel
theorem d_On_best_47 : decode b_On_best 47 = .ok (.goto 10, 3) := by decide +kernel
theorem d_On_best_50 : decode b_On_best 50 = .ok (.aload_n 0, 1) := by decide +kernel
theorem d_On_best_51 : decode b_On_best 51 = .ok (.getfield 46, 3) := by decide +kernel
theorem d_On_best_54 : decode b_On_best 54 = .ok (.getfield 191, 3) := by decide +kernel
theorem d_On_best_57 : decode b_On_best 57 = .ok (.ireturn, 1) := by decide +kernel
theorem d_On_best_58 : decode b_On_best 58 = .ok (.iload_n 2, 1) := by decide +kernel
theorem d_On_best_59 : decode b_On_best 59 = .ok (.aload_n 0, 1) := by decide +kernel
theorem d_On_best_60 : decode b_On_best 60 = .ok (.getfield 46, 3) := by decide +kernel
theorem d_On_best_63 : decode b_On_best 63 = .ok (.getfield 194, 3) := by decide +kernel
theorem d_On_best_66 : decode b_On_best 66 = .ok (.if_icmp .lt 6, 3) := by decide +kernel
theorem d_On_best_69 : decode b_On_best 69 = .ok (.bipush (-5), 2) := by decide +kernel
theorem d_On_best_71 : decode b_On_best 71 = .ok (.ireturn, 1) := by decide +kernel
theorem d_On_best_72 : decode b_On_best 72 = .ok (.iload_n 1, 1) := by decide +kernel
theorem d_On_best_73 : decode b_On_best 73 = .ok (.ifCond .ne 15, 3) := by decide +kernel
theorem d_On_best_76 : decode b_On_best 76 = .ok (.aload_n 0, 1) := by decide +kernel
theorem d_On_best_77 : decode b_On_best 77 = .ok (.getfield 46, 3) := by decide +kernel
theorem d_On_best_80 : decode b_On_best 80 = .ok (.getfield 195, 3) := by decide +kernel
theorem d_On_best_83 : decode b_On_best 83 = .ok (.iload_n 2, 1) := by decide +kernel
theorem d_On_best_84 : decode b_On_best 84 = .ok (.iaload, 1) := by decide +kernel
theorem d_On_best_85 : decode b_On_best 85 = .ok (.goto 12, 3) := by decide +kernel
theorem d_On_best_88 : decode b_On_best 88 = .ok (.aload_n 0, 1) := by decide +kernel
theorem d_On_best_89 : decode b_On_best 89 = .ok (.getfield 46, 3) := by decide +kernel
theorem d_On_best_92 : decode b_On_best 92 = .ok (.getfield 198, 3) := by decide +kernel
theorem d_On_best_95 : decode b_On_best 95 = .ok (.iload_n 2, 1) := by decide +kernel
theorem d_On_best_96 : decode b_On_best 96 = .ok (.iaload, 1) := by decide +kernel
theorem d_On_best_97 : decode b_On_best 97 = .ok (.ireturn, 1) := by decide +kernel
theorem d_On_see_0 : decode b_On_see 0 = .ok (.iload_n 1, 1) := by decide +kernel
theorem d_On_see_1 : decode b_On_see 1 = .ok (.iconst (-1), 1) := by decide +kernel
theorem d_On_see_2 : decode b_On_see 2 = .ok (.if_icmp .ne 16, 3) := by decide +kernel
theorem d_On_see_5 : decode b_On_see 5 = .ok (.aload_n 0, 1) := by decide +kernel
theorem d_On_see_6 : decode b_On_see 6 = .ok (.getfield 23, 3) := by decide +kernel
theorem d_On_see_9 : decode b_On_see 9 = .ok (.getfield 201, 3) := by decide +kernel
theorem d_On_see_12 : decode b_On_see 12 = .ok (.iconst 0, 1) := by decide +kernel
theorem d_On_see_13 : decode b_On_see 13 = .ok (.putfield 205, 3) := by decide +kernel
theorem d_On_see_16 : decode b_On_see 16 = .ok (.iconst 0, 1) := by decide +kernel
theorem d_On_see_17 : decode b_On_see 17 = .ok (.ireturn, 1) := by decide +kernel
theorem d_On_see_18 : decode b_On_see 18 = .ok (.aload_n 0, 1) := by decide +kernel
theorem d_On_see_19 : decode b_On_see 19 = .ok (.iload_n 1, 1) := by decide +kernel
theorem d_On_see_20 : decode b_On_see 20 = .ok (.invokevirtual 82, 3) := by decide +kernel
theorem d_On_see_23 : decode b_On_see 23 = .ok (.ifCond .ne 5, 3) := by decide +kernel
theorem d_On_see_26 : decode b_On_see 26 = .ok (.iconst (-1), 1) := by decide +kernel
theorem d_On_see_27 : decode b_On_see 27 = .ok (.ireturn, 1) := by decide +kernel
theorem d_On_see_28 : decode b_On_see 28 = .ok (.iload_n 2, 1) := by decide +kernel
theorem d_On_see_29 : decode b_On_see 29 = .ok (.iconst 0, 1) := by decide +kernel
theorem d_On_see_30 : decode b_On_see 30 = .ok (.sipush 999, 3) := by decide +kernel
theorem d_On_see_33 : decode b_On_see 33 = .ok (.invokestatic 64, 3) := by decide +kernel
theorem d_On_see_36 : decode b_On_see 36 = .ok (.ifCond .eq 13, 3) := by decide +kernel
theorem d_On_see_39 : decode b_On_see 39 = .ok (.iload_n 3, 1) := by decide +kernel
theorem d_On_see_40 : decode b_On_see 40 = .ok (.iconst 0, 1) := by decide +kernel
theorem d_On_see_41 : decode b_On_see 41 = .ok (.bipush 20, 2) := by decide +kernel
theorem d_On_see_43 : decode b_On_see 43 = .ok (.invokestatic 64, 3) := by decide +kernel
theorem d_On_see_46 : decode b_On_see 46 = .ok (.ifCond .ne 6, 3) := by decide +kernel
theorem d_On_see_49 : decode b_On_see 49 = .ok (.bipush (-2), 2) := by decide +kernel
theorem d_On_see_51 : decode b_On_see 51 = .ok (.ireturn, 1) := by decide +kernel
theorem d_On_see_52 : decode b_On_see 52 = .ok (.aload_n 0, 1) := by decide +kernel
theorem d_On_see_53 : decode b_On_see 53 = .ok (.getfield 23, 3) := by decide +kernel
theorem d_On_see_56 : decode b_On_see 56 = .ok (.getfield 201, 3) := by decide +kernel
theorem d_On_see_59 : decode b_On_see 59 = .ok (.iload_n 1, 1) := by decide +kernel
theorem d_On_see_60 : decode b_On_see 60 = .ok (.iload_n 2, 1) := by decide +kernel
theorem d_On_see_61 : decode b_On_see 61 = .ok (.iload_n 3, 1) := by decide +kernel
theorem d_On_see_62 : decode b_On_see 62 = .ok (.invokevirtual 208, 3) := by decide +kernel
theorem d_On_see_65 : decode b_On_see 65 = .ok (.ireturn, 1) := by decide +kernel
theorem d_On_can_0 : decode b_On_can 0 = .ok (.aload_n 0, 1) := by decide +kernel
theorem d_On_can_1 : decode b_On_can 1 = .ok (.iload_n 1, 1) := by decide +kernel
theorem d_On_can_2 : decode b_On_can 2 = .ok (.invokevirtual 82, 3) := by decide +kernel
theorem d_On_can_5 : decode b_On_can 5 = .ok (.ifCond .eq 21, 3) := by decide +kernel
theorem d_On_can_8 : decode b_On_can 8 = .ok (.iload_n 2, 1) := by decide +kernel
theorem d_On_can_9 : decode b_On_can 9 = .ok (.iconst 0, 1) := by decide +kernel
theorem d_On_can_10 : decode b_On_can 10 = .ok (.iconst 2, 1) := by decide +kernel
theorem d_On_can_11 : decode b_On_can 11 = .ok (.invokestatic 64, 3) := by decide +kernel
theorem d_On_can_14 : decode b_On_can 14 = .ok (.ifCond .eq 12, 3) := by decide +kernel
theorem d_On_can_17 : decode b_On_can 17 = .ok (.iload_n 3, 1) := by decide +kernel
theorem d_On_can_18 : decode b_On_can 18 = .ok (.iconst 0, 1) := by decide +kernel
theorem d_On_can_19 : decode b_On_can 19 = .ok (.iconst 1, 1) := by decide +kernel
theorem d_On_can_20 : decode b_On_can 20 = .ok (.invokestatic 64, 3) := by decide +kernel
theorem d_On_can_23 : decode b_On_can 23 = .ok (.ifCond .ne 5, 3) := by decide +kernel
theorem d_On_can_26 : decode b_On_can 26 = .ok (.iconst (-1), 1) := by decide +kernel
theorem d_On_can_27 : decode b_On_can 27 = .ok (.ireturn, 1) := by decide +kernel
theorem d_On_can_28 : decode b_On_can 28 = .ok (.aload_n 0, 1) := by decide +kernel
theorem d_On_can_29 : decode b_On_can 29 = .ok (.getfield 27, 3) := by decide +kernel
theorem d_On_can_32 : decode b_On_can 32 = .ok (.aload_n 0, 1) := by decide +kernel
theorem d_On_can_33 : decode b_On_can 33 = .ok (.getfield 23, 3) := by decide +kernel
theorem d_On_can_36 : decode b_On_can 36 = .ok (.invokevirtual 179, 3) := by decide +kernel
theorem d_On_can_39 : decode b_On_can 39 = .ok (.aload_n 0, 1) := by decide +kernel
theorem d_On_can_40 : decode b_On_can 40 = .ok (.getfield 27, 3) := by decide +kernel
theorem d_On_can_43 : decode b_On_can 43 = .ok (.getfield 72, 3) := by decide +kernel
theorem d_On_can_46 : decode b_On_can 46 = .ok (.iload_n 1, 1) := by decide +kernel
theorem d_On_can_47 : decode b_On_can 47 = .ok (.aaload, 1) := by decide +kernel
theorem d_On_can_48 : decode b_On_can 48 = .ok (.astore 4, 2) := by decide +kernel
theorem d_On_can_50 : decode b_On_can 50 = .ok (.iload_n 2, 1) := by decide +kernel
theorem d_On_can_51 : decode b_On_can 51 = .ok (.ifCond .ne 8, 3) := by decide +kernel
theorem d_On_can_54 : decode b_On_can 54 = .ok (.bipush 99, 2) := by decide +kernel
theorem d_On_can_56 : decode b_On_can 56 = .ok (.goto 15, 3) := by decide +kernel
theorem d_On_can_59 : decode b_On_can 59 = .ok (.iload_n 2, 1) := by decide +kernel
theorem d_On_can_60 : decode b_On_can 60 = .ok (.iconst 1, 1) := by decide +kernel
theorem d_On_can_61 : decode b_On_can 61 = .ok (.if_icmp .ne 8, 3) := by decide +kernel
theorem d_On_can_64 : decode b_On_can 64 = .ok (.bipush 60, 2) := by decide +kernel
theorem d_On_can_66 : decode b_On_can 66 = .ok (.goto 5, 3) := by decide +kernel
theorem d_On_can_69 : decode b_On_can 69 = .ok (.bipush 9, 2) := by decide +kernel
theorem d_On_can_71 : decode b_On_can 71 = .ok (.istore 5, 2) := by decide +kernel
theorem d_On_can_73 : decode b_On_can 73 = .ok (.iconst 0, 1) := by decide +kernel
theorem d_On_can_74 : decode b_On_can 74 = .ok (.istore 6, 2) := by decide +kernel
theorem d_On_can_76 : decode b_On_can 76 = .ok (.bipush (-5), 2) := by decide +kernel
theorem d_On_can_78 : decode b_On_can 78 = .ok (.istore 7, 2) := by decide +kernel
theorem d_On_can_80 : decode b_On_can 80 = .ok (.iload 5, 2) := by decide +kernel
theorem d_On_can_82 : decode b_On_can 82 = .ok (.istore 8, 2) := by decide +kernel
theorem d_On_can_84 : decode b_On_can 84 = .ok (.iload 8, 2) := by decide +kernel
theorem d_On_can_86 : decode b_On_can 86 = .ok (.ifCond .lt 64, 3) := by decide +kernel
theorem d_On_can_89 : decode b_On_can 89 = .ok (.iload_n 2, 1) := by decide +kernel
theorem d_On_can_90 : decode b_On_can 90 = .ok (.ifCond .ne 13, 3) := by decide +kernel
theorem d_On_can_93 : decode b_On_can 93 = .ok (.aload 4, 2) := by decide +kernel
theorem d_On_can_95 : decode b_On_can 95 = .ok (.iload 8, 2) := by decide +kernel
theorem d_On_can_97 : decode b_On_can 97 = .ok (.putfield 92, 3) := by decide +kernel
theorem d_On_can_100 : decode b_On_can 100 = .ok (.goto 25, 3) := by decide +kernel
theorem d_On_can_103 : decode b_On_can 103 = .ok (.iload_n 2, 1) := by decide +kernel
theorem d_On_can_104 : decode b_On_can 104 = .ok (.iconst 1, 1) := by decide +kernel
theorem d_On_can_105 : decode b_On_can 105 = .ok (.if_icmp .ne 13, 3) := by decide +kernel
theorem d_On_can_108 : decode b_On_can 108 = .ok (.aload 4, 2) := by decide +kernel
theorem d_On_can_110 : decode b_On_can 110 = .ok (.iload 8, 2) := by decide +kernel
theorem d_On_can_112 : decode b_On_can 112 = .ok (.putfield 95, 3) := by decide +kernel
theorem d_On_can_115 : decode b_On_can 115 = .ok (.goto 10, 3) := by decide +kernel
theorem d_On_can_118 : decode b_On_can 118 = .ok (.aload 4, 2) := by decide +kernel
theorem d_On_can_120 : decode b_On_can 120 = .ok (.iload 8, 2) := by decide +kernel
theorem d_On_can_122 : decode b_On_can 122 = .ok (.putfield 89, 3) := by decide +kernel
theorem d_On_can_125 : decode b_On_can 125 = .ok (.aload_n 0, 1) := by decide +kernel
theorem d_On_can_126 : decode b_On_can 126 = .ok (.getfield 27, 3) := by decide +kernel
theorem d_On_can_129 : decode b_On_can 129 = .ok (.aload 4, 2) := by decide +kernel
theorem d_On_can_131 : decode b_On_can 131 = .ok (.invokevirtual 212, 3) := by decide +kernel
theorem d_On_can_134 : decode b_On_can 134 = .ok (.ifCond .eq 10, 3) := by decide +kernel
theorem d_On_can_137 : decode b_On_can 137 = .ok (.iinc 6 1, 3) := by decide +kernel
theorem d_On_can_140 : decode b_On_can 140 = .ok (.iload 8, 2) := by decide +kernel
theorem d_On_can_142 : decode b_On_can 142 = .ok (.istore 7, 2) := by decide +kernel
theorem d_On_can_144 : decode b_On_can 144 = .ok (.iinc 8 (-1), 3) := by decide +kernel
theorem d_On_can_147 : decode b_On_can 147 = .ok (.goto (-63), 3) := by decide +kernel
theorem d_On_can_150 : decode b_On_can 150 = .ok (.iload_n 3, 1) := by decide +kernel
theorem d_On_can_151 : decode b_On_can 151 = .ok (.ifCond .ne 8, 3) := by decide +kernel
theorem d_On_can_154 : decode b_On_can 154 = .ok (.iload 6, 2) := by decide +kernel
theorem d_On_can_156 : decode b_On_can 156 = .ok (.goto 5, 3) := by decide +kernel
theorem d_On_can_159 : decode b_On_can 159 = .ok (.iload 7, 2) := by decide +kernel
theorem d_On_can_161 : decode b_On_can 161 = .ok (.ireturn, 1) := by decide +kernel
theorem d_On_odds_0 : decode b_On_odds 0 = .ok (.iload_n 1, 1) := by decide +kernel
theorem d_On_odds_1 : decode b_On_odds 1 = .ok (.iconst 0, 1) := by decide +kernel
theorem d_On_odds_2 : decode b_On_odds 2 = .ok (.sipush 9999, 3) := by decide +kernel
theorem d_On_odds_5 : decode b_On_odds 5 = .ok (.invokestatic 64, 3) := by decide +kernel
theorem d_On_odds_8 : decode b_On_odds 8 = .ok (.ifCond .eq 12, 3) := by decide +kernel
theorem d_On_odds_11 : decode b_On_odds 11 = .ok (.iload_n 2, 1) := by decide +kernel
theorem d_On_odds_12 : decode b_On_odds 12 = .ok (.iconst 0, 1) := by decide +kernel
theorem d_On_odds_13 : decode b_On_odds 13 = .ok (.iconst 1, 1) := by decide +kernel
theorem d_On_odds_14 : decode b_On_odds 14 = .ok (.invokestatic 64, 3) := by decide +kernel
theorem d_On_odds_17 : decode b_On_odds 17 = .ok (.ifCond .ne 7, 3) := by decide +kernel
theorem d_On_odds_20 : decode b_On_odds 20 = .ok (.ldc2_w 216, 3) := by decide +kernel
theorem d_On_odds_23 : decode b_On_odds 23 = .ok (.lreturn, 1) := by decide +kernel
theorem d_On_odds_24 : decode b_On_odds 24 = .ok (.aload_n 0, 1) := by decide +kernel
theorem d_On_odds_25 : decode b_On_odds 25 = .ok (.getfield 46, 3) := by decide +kernel
theorem d_On_odds_28 : decode b_On_odds 28 = .ok (.aload_n 0, 1) := by decide +kernel
theorem d_On_odds_29 : decode b_On_odds 29 = .ok (.getfield 23, 3) := by decide +kernel
theorem d_On_odds_32 : decode b_On_odds 32 = .ok (.iload_n 1, 1) := by decide +kernel
theorem d_On_odds_33 : decode b_On_odds 33 = .ok (.invokevirtual 184, 3) := by decide +kernel
theorem d_On_odds_36 : decode b_On_odds 36 = .ok (.aload_n 0, 1) := by decide +kernel
theorem d_On_odds_37 : decode b_On_odds 37 = .ok (.getfield 46, 3) := by decide +kernel
theorem d_On_odds_40 : decode b_On_odds 40 = .ok (.getfield 218, 3) := by decide +kernel
theorem d_On_odds_43 : decode b_On_odds 43 = .ok (.i2l, 1) := by decide +kernel
theorem d_On_odds_44 : decode b_On_odds 44 = .ok (.aload_n 0, 1) := by decide +kernel
theorem d_On_odds_45 : decode b_On_odds 45 = .ok (.getfield 46, 3) := by decide +kernel
theorem d_On_odds_48 : decode b_On_odds 48 = .ok (.getfield 221, 3) := by decide +kernel
theorem d_On_odds_51 : decode b_On_odds 51 = .ok (.i2l, 1) := by decide +kernel
theorem d_On_odds_52 : decode b_On_odds 52 = .ok (.iload_n 2, 1) := by decide +kernel
theorem d_On_odds_53 : decode b_On_odds 53 = .ok (.invokestatic 224, 3) := by decide +kernel
theorem d_On_odds_56 : decode b_On_odds 56 = .ok (.lreturn, 1) := by decide +kernel
theorem d_On_mean_0 : decode b_On_mean 0 = .ok (.iload_n 1, 1) := by decide +kernel
theorem d_On_mean_1 : decode b_On_mean 1 = .ok (.iconst 0, 1) := by decide +kernel
theorem d_On_mean_2 : decode b_On_mean 2 = .ok (.iconst 1, 1) := by decide +kernel
theorem d_On_mean_3 : decode b_On_mean 3 = .ok (.invokestatic 64, 3) := by decide +kernel
theorem d_On_mean_6 : decode b_On_mean 6 = .ok (.ifCond .ne 7, 3) := by decide +kernel
theorem d_On_mean_9 : decode b_On_mean 9 = .ok (.ldc2_w 216, 3) := by decide +kernel
theorem d_On_mean_12 : decode b_On_mean 12 = .ok (.lreturn, 1) := by decide +kernel
theorem d_On_mean_13 : decode b_On_mean 13 = .ok (.aload_n 0, 1) := by decide +kernel
theorem d_On_mean_14 : decode b_On_mean 14 = .ok (.getfield 46, 3) := by decide +kernel
theorem d_On_mean_17 : decode b_On_mean 17 = .ok (.aload_n 0, 1) := by decide +kernel
theorem d_On_mean_18 : decode b_On_mean 18 = .ok (.getfield 23, 3) := by decide +kernel
theorem d_On_mean_21 : decode b_On_mean 21 = .ok (.iconst 0, 1) := by decide +kernel
theorem d_On_mean_22 : decode b_On_mean 22 = .ok (.invokevirtual 184, 3) := by decide +kernel
theorem d_On_mean_25 : decode b_On_mean 25 = .ok (.aload_n 0, 1) := by decide +kernel
theorem d_On_mean_26 : decode b_On_mean 26 = .ok (.getfield 46, 3) := by decide +kernel
theorem d_On_mean_29 : decode b_On_mean 29 = .ok (.getfield 228, 3) := by decide +kernel
theorem d_On_mean_32 : decode b_On_mean 32 = .ok (.aload_n 0, 1) := by decide +kernel
theorem d_On_mean_33 : decode b_On_mean 33 = .ok (.getfield 46, 3) := by decide +kernel
theorem d_On_mean_36 : decode b_On_mean 36 = .ok (.getfield 221, 3) := by decide +kernel
theorem d_On_mean_39 : decode b_On_mean 39 = .ok (.i2l, 1) := by decide +kernel
theorem d_On_mean_40 : decode b_On_mean 40 = .ok (.iload_n 1, 1) := by decide +kernel
theorem d_On_mean_41 : decode b_On_mean 41 = .ok (.invokestatic 224, 3) := by decide +kernel
theorem d_On_mean_44 : decode b_On_mean 44 = .ok (.lreturn, 1) := by decide +kernel
theorem d_On_plan_0 : decode b_On_plan 0 = .ok (.iload_n 1, 1) := by decide +kernel
theorem d_On_plan_1 : decode b_On_plan 1 = .ok (.iconst (-1), 1) := by decide +kernel
theorem d_On_plan_2 : decode b_On_plan 2 = .ok (.if_icmp .ne 16, 3) := by decide +kernel
theorem d_On_plan_5 : decode b_On_plan 5 = .ok (.aload_n 0, 1) := by decide +kernel
theorem d_On_plan_6 : decode b_On_plan 6 = .ok (.getfield 23, 3) := by decide +kernel
theorem d_On_plan_9 : decode b_On_plan 9 = .ok (.getfield 232, 3) := by decide +kernel
theorem d_On_plan_12 : decode b_On_plan 12 = .ok (.iconst 0, 1) := by decide +kernel
theorem d_On_plan_13 : decode b_On_plan 13 = .ok (.putfield 205, 3) := by decide +kernel
theorem d_On_plan_16 : decode b_On_plan 16 = .ok (.iconst 0, 1) := by decide +kernel
theorem d_On_plan_17 : decode b_On_plan 17 = .ok (.ireturn, 1) := by decide +kernel
theorem d_On_plan_18 : decode b_On_plan 18 = .ok (.iload_n 1, 1) := by decide +kernel
theorem d_On_plan_19 : decode b_On_plan 19 = .ok (.iconst 0, 1) := by decide +kernel
theorem d_On_plan_20 : decode b_On_plan 20 = .ok (.iconst 3, 1) := by decide +kernel
theorem d_On_plan_21 : decode b_On_plan 21 = .ok (.invokestatic 64, 3) := by decide +kernel
theorem d_On_plan_24 : decode b_On_plan 24 = .ok (.ifCond .eq 15, 3) := by decide +kernel
theorem d_On_plan_27 : decode b_On_plan 27 = .ok (.iload_n 1, 1) := by decide +kernel
theorem d_On_plan_28 : decode b_On_plan 28 = .ok (.ifCond .eq 13, 3) := by decide +kernel
theorem d_On_plan_31 : decode b_On_plan 31 = .ok (.aload_n 0, 1) := by decide +kernel
theorem d_On_plan_32 : decode b_On_plan 32 = .ok (.iload_n 2, 1) := by decide +kernel
theorem d_On_plan_33 : decode b_On_plan 33 = .ok (.invokevirtual 82, 3) := by decide +kernel
theorem d_On_plan_36 : decode b_On_plan 36 = .ok (.ifCond .ne 5, 3) := by decide +kernel
theorem d_On_plan_39 : decode b_On_plan 39 = .ok (.iconst (-1), 1) := by decide +kernel
theorem d_On_plan_40 : decode b_On_plan 40 = .ok (.ireturn, 1) := by decide +kernel
theorem d_On_plan_41 : decode b_On_plan 41 = .ok (.aload_n 0, 1) := by decide +kernel
theorem d_On_plan_42 : decode b_On_plan 42 = .ok (.getfield 23, 3) := by decide +kernel
theorem d_On_plan_45 : decode b_On_plan 45 = .ok (.getfield 232, 3) := by decide +kernel
theorem d_On_plan_48 : decode b_On_plan 48 = .ok (.iload_n 1, 1) := by decide +kernel
theorem d_On_plan_49 : decode b_On_plan 49 = .ok (.iload_n 2, 1) := by decide +kernel
theorem d_On_plan_50 : decode b_On_plan 50 = .ok (.iconst 0, 1) := by decide +kernel
theorem d_On_plan_51 : decode b_On_plan 51 = .ok (.invokevirtual 208, 3) := by decide +kernel
theorem d_On_plan_54 : decode b_On_plan 54 = .ok (.ireturn, 1) := by decide +kernel
theorem d_On_ends_0 : decode b_On_ends 0 = .ok (.iload_n 1, 1) := by decide +kernel
theorem d_On_ends_1 : decode b_On_ends 1 = .ok (.iconst 0, 1) := by decide +kernel
theorem d_On_ends_2 : decode b_On_ends 2 = .ok (.iconst 1, 1) := by decide +kernel
theorem d_On_ends_3 : decode b_On_ends 3 = .ok (.invokestatic 64, 3) := by decide +kernel
theorem d_On_ends_6 : decode b_On_ends 6 = .ok (.ifCond .ne 5, 3) := by decide +kernel
theorem d_On_ends_9 : decode b_On_ends 9 = .ok (.iconst (-1), 1) := by decide +kernel
theorem d_On_ends_10 : decode b_On_ends 10 = .ok (.ireturn, 1) := by decide +kernel
theorem d_On_ends_11 : decode b_On_ends 11 = .ok (.aload_n 0, 1) := by decide +kernel
theorem d_On_ends_12 : decode b_On_ends 12 = .ok (.getfield 27, 3) := by decide +kernel
theorem d_On_ends_15 : decode b_On_ends 15 = .ok (.aload_n 0, 1) := by decide +kernel
theorem d_On_ends_16 : decode b_On_ends 16 = .ok (.getfield 23, 3) := by decide +kernel
theorem d_On_ends_19 : decode b_On_ends 19 = .ok (.invokevirtual 179, 3) := by decide +kernel
theorem d_On_ends_22 : decode b_On_ends 22 = .ok (.aload_n 0, 1) := by decide +kernel
theorem d_On_ends_23 : decode b_On_ends 23 = .ok (.getfield 27, 3) := by decide +kernel
theorem d_On_ends_26 : decode b_On_ends 26 = .ok (.invokevirtual 235, 3) := by decide +kernel
theorem d_On_ends_29 : decode b_On_ends 29 = .ok (.iload_n 1, 1) := by decide +kernel
theorem d_On_ends_30 : decode b_On_ends 30 = .ok (.ifCond .ne 13, 3) := by decide +kernel
theorem d_On_ends_33 : decode b_On_ends 33 = .ok (.aload_n 0, 1) := by decide +kernel
theorem d_On_ends_34 : decode b_On_ends 34 = .ok (.getfield 27, 3) := by decide +kernel
theorem d_On_ends_37 : decode b_On_ends 37 = .ok (.invokevirtual 157, 3) := by decide +kernel
theorem d_On_ends_40 : decode b_On_ends 40 = .ok (.goto 10, 3) := by decide +kernel
theorem d_On_ends_43 : decode b_On_ends 43 = .ok (.aload_n 0, 1) := by decide +kernel
theorem d_On_ends_44 : decode b_On_ends 44 = .ok (.getfield 27, 3) := by decide +kernel
theorem d_On_ends_47 : decode b_On_ends 47 = .ok (.invokevirtual 161, 3) := by decide +kernel
theorem d_On_ends_50 : decode b_On_ends 50 = .ok (.ireturn, 1) := by decide +kernel
theorem d_On_book_0 : decode b_On_book 0 = .ok (.iload_n 1, 1) := by decide +kernel
theorem d_On_book_1 : decode b_On_book 1 = .ok (.iconst (-1), 1) := by decide +kernel
theorem d_On_book_2 : decode b_On_book 2 = .ok (.if_icmp .ne 16, 3) := by decide +kernel
theorem d_On_book_5 : decode b_On_book 5 = .ok (.aload_n 0, 1) := by decide +kernel
theorem d_On_book_6 : decode b_On_book 6 = .ok (.getfield 23, 3) := by decide +kernel
theorem d_On_book_9 : decode b_On_book 9 = .ok (.getfield 238, 3) := by decide +kernel
theorem d_On_book_12 : decode b_On_book 12 = .ok (.iconst 0, 1) := by decide +kernel
theorem d_On_book_13 : decode b_On_book 13 = .ok (.putfield 205, 3) := by decide +kernel
theorem d_On_book_16 : decode b_On_book 16 = .ok (.iconst 0, 1) := by decide +kernel
theorem d_On_book_17 : decode b_On_book 17 = .ok (.ireturn, 1) := by decide +kernel
theorem d_On_book_18 : decode b_On_book 18 = .ok (.aload_n 0, 1) := by decide +kernel
theorem d_On_book_19 : decode b_On_book 19 = .ok (.iload_n 1, 1) := by decide +kernel
theorem d_On_book_20 : decode b_On_book 20 = .ok (.invokevirtual 82, 3) := by decide +kernel
theorem d_On_book_23 : decode b_On_book 23 = .ok (.ifCond .ne 5, 3) := by decide +kernel
theorem d_On_book_26 : decode b_On_book 26 = .ok (.iconst (-1), 1) := by decide +kernel
theorem d_On_book_27 : decode b_On_book 27 = .ok (.ireturn, 1) := by decide +kernel
theorem d_On_book_28 : decode b_On_book 28 = .ok (.iload_n 2, 1) := by decide +kernel
theorem d_On_book_29 : decode b_On_book 29 = .ok (.iconst 0, 1) := by decide +kernel
theorem d_On_book_30 : decode b_On_book 30 = .ok (.ldc 117, 2) := by decide +kernel
theorem d_On_book_32 : decode b_On_book 32 = .ok (.invokestatic 64, 3) := by decide +kernel
theorem d_On_book_35 : decode b_On_book 35 = .ok (.ifCond .ne 6, 3) := by decide +kernel
theorem d_On_book_38 : decode b_On_book 38 = .ok (.bipush (-2), 2) := by decide +kernel
theorem d_On_book_40 : decode b_On_book 40 = .ok (.ireturn, 1) := by decide +kernel
theorem d_On_book_41 : decode b_On_book 41 = .ok (.aload_n 0, 1) := by decide +kernel
theorem d_On_book_42 : decode b_On_book 42 = .ok (.getfield 23, 3) := by decide +kernel
theorem d_On_book_45 : decode b_On_book 45 = .ok (.getfield 238, 3) := by decide +kernel
theorem d_On_book_48 : decode b_On_book 48 = .ok (.iload_n 1, 1) := by decide +kernel
theorem d_On_book_49 : decode b_On_book 49 = .ok (.iload_n 2, 1) := by decide +kernel
theorem d_On_book_50 : decode b_On_book 50 = .ok (.iconst 0, 1) := by decide +kernel
theorem d_On_book_51 : decode b_On_book 51 = .ok (.invokevirtual 208, 3) := by decide +kernel
theorem d_On_book_54 : decode b_On_book 54 = .ok (.ireturn, 1) := by decide +kernel
theorem d_On_looked_0 : decode b_On_looked 0 = .ok (.iconst 0, 1) := by decide +kernel
theorem d_On_looked_1 : decode b_On_looked 1 = .ok (.istore_n 1, 1) := by decide +kernel
theorem d_On_looked_2 : decode b_On_looked 2 = .ok (.iload_n 1, 1) := by decide +kernel
theorem d_On_looked_3 : decode b_On_looked 3 = .ok (.aload_n 0, 1) := by decide +kernel
theorem d_On_looked_4 : decode b_On_looked 4 = .ok (.getfield 23, 3) := by decide +kernel
theorem d_On_looked_7 : decode b_On_looked 7 = .ok (.getfield 238, 3) := by decide +kernel
theorem d_On_looked_10 : decode b_On_looked 10 = .ok (.getfield 205, 3) := by decide +kernel
theorem d_On_looked_13 : decode b_On_looked 13 = .ok (.if_icmp .ge 59, 3) := by decide +kernel
theorem d_On_looked_16 : decode b_On_looked 16 = .ok (.aload_n 0, 1) := by decide +kernel
theorem d_On_looked_17 : decode b_On_looked 17 = .ok (.getfield 23, 3) := by decide +kernel
theorem d_On_looked_20 : decode b_On_looked 20 = .ok (.getfield 238, 3) := by decide +kernel
theorem d_On_looked_23 : decode b_On_looked 23 = .ok (.getfield 241, 3) := by decide +kernel
theorem d_On_looked_26 : decode b_On_looked 26 = .ok (.iload_n 1, 1) := by decide +kernel
theorem d_On_looked_27 : decode b_On_looked 27 = .ok (.iaload, 1) := by decide +kernel
theorem d_On_looked_28 : decode b_On_looked 28 = .ok (.istore_n 2, 1) := by decide +kernel
theorem d_On_looked_29 : decode b_On_looked 29 = .ok (.aload_n 0, 1) := by decide +kernel
theorem d_On_looked_30 : decode b_On_looked 30 = .ok (.iload_n 2, 1) := by decide +kernel
theorem d_On_looked_31 : decode b_On_looked 31 = .ok (.invokevirtual 82, 3) := by decide +kernel
theorem d_On_looked_34 : decode b_On_looked 34 = .ok (.ifCond .eq 32, 3) := by decide +kernel
theorem d_On_looked_37 : decode b_On_looked 37 = .ok (.aload_n 0, 1) := by decide +kernel
theorem d_On_looked_38 : decode b_On_looked 38 = .ok (.getfield 23, 3) := by decide +kernel
theorem d_On_looked_41 : decode b_On_looked 41 = .ok (.getfield 72, 3) := by decide +kernel
theorem d_On_looked_44 : decode b_On_looked 44 = .ok (.iload_n 2, 1) := by decide +kernel
theorem d_On_looked_45 : decode b_On_looked 45 = .ok (.aaload, 1) := by decide +kernel
theorem d_On_looked_46 : decode b_On_looked 46 = .ok (.getfield 98, 3) := by decide +kernel
theorem d_On_looked_49 : decode b_On_looked 49 = .ok (.aload_n 0, 1) := by decide +kernel
theorem d_On_looked_50 : decode b_On_looked 50 = .ok (.getfield 23, 3) := by decide +kernel
theorem d_On_looked_53 : decode b_On_looked 53 = .ok (.getfield 238, 3) := by decide +kernel
theorem d_On_looked_56 : decode b_On_looked 56 = .ok (.getfield 244, 3) := by decide +kernel
theorem d_On_looked_59 : decode b_On_looked 59 = .ok (.iload_n 1, 1) := by decide +kernel
theorem d_On_looked_60 : decode b_On_looked 60 = .ok (.iaload, 1) := by decide +kernel
theorem d_On_looked_61 : decode b_On_looked 61 = .ok (.if_icmp .eq 5, 3) := by decide +kernel
theorem d_On_looked_64 : decode b_On_looked 64 = .ok (.iload_n 1, 1) := by decide +kernel
theorem d_On_looked_65 : decode b_On_looked 65 = .ok (.ireturn, 1) := by decide +kernel
theorem d_On_looked_66 : decode b_On_looked 66 = .ok (.iinc 1 1, 3) := by decide +kernel
theorem d_On_looked_69 : decode b_On_looked 69 = .ok (.goto (-67), 3) := by decide +kernel
theorem d_On_looked_72 : decode b_On_looked 72 = .ok (.bipush (-5), 2) := by decide +kernel
theorem d_On_looked_74 : decode b_On_looked 74 = .ok (.ireturn, 1) := by decide +kernel
theorem d_On_judge_0 : decode b_On_judge 0 = .ok (.iload_n 1, 1) := by decide +kernel
theorem d_On_judge_1 : decode b_On_judge 1 = .ok (.invokestatic 247, 3) := by decide +kernel
theorem d_On_judge_4 : decode b_On_judge 4 = .ok (.ifCond .ne 5, 3) := by decide +kernel
theorem d_On_judge_7 : decode b_On_judge 7 = .ok (.iconst (-1), 1) := by decide +kernel
theorem d_On_judge_8 : decode b_On_judge 8 = .ok (.ireturn, 1) := by decide +kernel
theorem d_On_judge_9 : decode b_On_judge 9 = .ok (.aload_n 0, 1) := by decide +kernel
theorem d_On_judge_10 : decode b_On_judge 10 = .ok (.getfield 59, 3) := by decide +kernel
theorem d_On_judge_13 : decode b_On_judge 13 = .ok (.iload_n 1, 1) := by decide +kernel
theorem d_On_judge_14 : decode b_On_judge 14 = .ok (.aaload, 1) := by decide +kernel
theorem d_On_judge_15 : decode b_On_judge 15 = .ok (.astore_n 3, 1) := by decide +kernel
theorem d_On_judge_16 : decode b_On_judge 16 = .ok (.aload_n 3, 1) := by decide +kernel
theorem d_On_judge_17 : decode b_On_judge 17 = .ok (.getfield 250, 3) := by decide +kernel
theorem d_On_judge_20 : decode b_On_judge 20 = .ok (.iconst (-1), 1) := by decide +kernel
theorem d_On_judge_21 : decode b_On_judge 21 = .ok (.if_icmp .eq 14, 3) := by decide +kernel
theorem d_On_judge_24 : decode b_On_judge 24 = .ok (.aload_n 3, 1) := by decide +kernel
theorem d_On_judge_25 : decode b_On_judge 25 = .ok (.getfield 250, 3) := by decide +kernel
theorem d_On_judge_28 : decode b_On_judge 28 = .ok (.iconst 2, 1) := by decide +kernel
theorem d_On_judge_29 : decode b_On_judge 29 = .ok (.if_icmp .eq 6, 3) := by decide +kernel
theorem d_On_judge_32 : decode b_On_judge 32 = .ok (.bipush (-12), 2) := by decide +kernel
theorem d_On_judge_34 : decode b_On_judge 34 = .ok (.ireturn, 1) := by decide +kernel
theorem d_On_judge_35 : decode b_On_judge 35 = .ok (.iconst 0, 1) := by decide +kernel
theorem d_On_judge_36 : decode b_On_judge 36 = .ok (.istore 4, 2) := by decide +kernel
theorem d_On_judge_38 : decode b_On_judge 38 = .ok (.iload 4, 2) := by decide +kernel
theorem d_On_judge_40 : decode b_On_judge 40 = .ok (.aload_n 0, 1) := by decide +kernel
theorem d_On_judge_41 : decode b_On_judge 41 = .ok (.getfield 23, 3) := by decide +kernel
theorem d_On_judge_44 : decode b_On_judge 44 = .ok (.getfield 68, 3) := by decide +kernel
theorem d_On_judge_47 : decode b_On_judge 47 = .ok (.if_icmp .ge 60, 3) := by decide +kernel
theorem d_On_judge_50 : decode b_On_judge 50 = .ok (.iload_n 2, 1) := by decide +kernel
theorem d_On_judge_51 : decode b_On_judge 51 = .ok (.ifCond .lt 14, 3) := by decide +kernel
theorem d_On_judge_54 : decode b_On_judge 54 = .ok (.iload_n 2, 1) := by decide +kernel
theorem d_On_judge_55 : decode b_On_judge 55 = .ok (.aload_n 3, 1) := by decide +kernel
theorem d_On_judge_56 : decode b_On_judge 56 = .ok (.getfield 253, 3) := by decide +kernel
theorem d_On_judge_59 : decode b_On_judge 59 = .ok (.iload 4, 2) := by decide +kernel
theorem d_On_judge_61 : decode b_On_judge 61 = .ok (.isub, 1) := by decide +kernel
theorem d_On_judge_62 : decode b_On_judge 62 = .ok (.if_icmp .lt 9, 3) := by decide +kernel
theorem d_On_judge_65 : decode b_On_judge 65 = .ok (.bipush 100, 2) := by decide +kernel
theorem d_On_judge_67 : decode b_On_judge 67 = .ok (.iload 4, 2) := by decide +kernel
theorem d_On_judge_69 : decode b_On_judge 69 = .ok (.iadd, 1) := by decide +kernel
theorem d_On_judge_70 : decode b_On_judge 70 = .ok (.ireturn, 1) := by decide +kernel
theorem d_On_judge_71 : decode b_On_judge 71 = .ok (.aload_n 3, 1) := by decide +kernel
theorem d_On_judge_72 : decode b_On_judge 72 = .ok (.getfield 254, 3) := by decide +kernel
theorem d_On_judge_75 : decode b_On_judge 75 = .ok (.iload_n 2, 1) := by decide +kernel
theorem d_On_judge_76 : decode b_On_judge 76 = .ok (.iload 4, 2) := by decide +kernel
theorem d_On_judge_78 : decode b_On_judge 78 = .ok (.iadd, 1) := by decide +kernel
theorem d_On_judge_79 : decode b_On_judge 79 = .ok (.laload, 1) := by decide +kernel
theorem d_On_judge_80 : decode b_On_judge 80 = .ok (.aload_n 0, 1) := by decide +kernel
theorem d_On_judge_81 : decode b_On_judge 81 = .ok (.getfield 23, 3) := by decide +kernel
theorem d_On_judge_84 : decode b_On_judge 84 = .ok (.getfield 72, 3) := by decide +kernel
theorem d_On_judge_87 : decode b_On_judge 87 = .ok (.iload 4, 2) := by decide +kernel
theorem d_On_judge_89 : decode b_On_judge 89 = .ok (.aaload, 1) := by decide +kernel
theorem d_On_judge_90 : decode b_On_judge 90 = .ok (.getfield 98, 3) := by decide +kernel
theorem d_On_judge_93 : decode b_On_judge 93 = .ok (.i2l, 1) := by decide +kernel
theorem d_On_judge_94 : decode b_On_judge 94 = .ok (.lcmp, 1) := by decide +kernel
theorem d_On_judge_95 : decode b_On_judge 95 = .ok (.ifCond .eq 6, 3) := by decide +kernel
theorem d_On_judge_98 : decode b_On_judge 98 = .ok (.iload 4, 2) := by decide +kernel
theorem d_On_judge_100 : decode b_On_judge 100 = .ok (.ireturn, 1) := by decide +kernel
theorem d_On_judge_101 : decode b_On_judge 101 = .ok (.iinc 4 1, 3) := by decide +kernel
theorem d_On_judge_104 : decode b_On_judge 104 = .ok (.goto (-66), 3) := by decide +kernel
theorem d_On_judge_107 : decode b_On_judge 107 = .ok (.bipush (-5), 2) := by decide +kernel
theorem d_On_judge_109 : decode b_On_judge 109 = .ok (.ireturn, 1) := by decide +kernel
theorem d_On_image_0 : decode b_On_image 0 = .ok (.aload_n 0, 1) := by decide +kernel
theorem d_On_image_1 : decode b_On_image 1 = .ok (.getfield 30, 3) := by decide +kernel
theorem d_On_image_4 : decode b_On_image 4 = .ok (.aload_n 0, 1) := by decide +kernel
theorem d_On_image_5 : decode b_On_image 5 = .ok (.getfield 23, 3) := by decide +kernel
theorem d_On_image_8 : decode b_On_image 8 = .ok (.invokevirtual 179, 3) := by decide +kernel
theorem d_On_image_11 : decode b_On_image 11 = .ok (.aload_n 0, 1) := by decide +kernel
theorem d_On_image_12 : decode b_On_image 12 = .ok (.iconst 1, 1) := by decide +kernel
theorem d_On_image_13 : decode b_On_image 13 = .ok (.putfield 258, 3) := by decide +kernel
theorem d_On_image_16 : decode b_On_image 16 = .ok (.aload_n 0, 1) := by decide +kernel
theorem d_On_image_17 : decode b_On_image 17 = .ok (.getfield 23, 3) := by decide +kernel
theorem d_On_image_20 : decode b_On_image 20 = .ok (.getfield 68, 3) := by decide +kernel
theorem d_On_image_23 : decode b_On_image 23 = .ok (.ireturn, 1) := by decide +kernel
theorem d_On_undo_0 : decode b_On_undo 0 = .ok (.aload_n 0, 1) := by decide +kernel
theorem d_On_undo_1 : decode b_On_undo 1 = .ok (.getfield 258, 3) := by decide +kernel
theorem d_On_undo_4 : decode b_On_undo 4 = .ok (.ifCond .ne 6, 3) := by decide +kernel
theorem d_On_undo_7 : decode b_On_undo 7 = .ok (.bipush (-3), 2) := by decide +kernel
theorem d_On_undo_9 : decode b_On_undo 9 = .ok (.ireturn, 1) := by decide +kernel
theorem d_On_undo_10 : decode b_On_undo 10 = .ok (.aload_n 0, 1) := by decide +kernel
theorem d_On_undo_11 : decode b_On_undo 11 = .ok (.getfield 23, 3) := by decide +kernel
theorem d_On_undo_14 : decode b_On_undo 14 = .ok (.aload_n 0, 1) := by decide +kernel
theorem d_On_undo_15 : decode b_On_undo 15 = .ok (.getfield 30, 3) := by decide +kernel
theorem d_On_undo_18 : decode b_On_undo 18 = .ok (.invokevirtual 179, 3) := by decide +kernel
theorem d_On_undo_21 : decode b_On_undo 21 = .ok (.aload_n 0, 1) := by decide +kernel
theorem d_On_undo_22 : decode b_On_undo 22 = .ok (.getfield 23, 3) := by decide +kernel
theorem d_On_undo_25 : decode b_On_undo 25 = .ok (.getfield 68, 3) := by decide +kernel
theorem d_On_undo_28 : decode b_On_undo 28 = .ok (.ireturn, 1) := by decide +kernel
theorem d_On_act_0 : decode b_On_act 0 = .ok (.aload_n 0, 1) := by decide +kernel
theorem d_On_act_1 : decode b_On_act 1 = .ok (.getfield 53, 3) := by decide +kernel
theorem d_On_act_4 : decode b_On_act 4 = .ok (.iconst 0, 1) := by decide +kernel
theorem d_On_act_5 : decode b_On_act 5 = .ok (.putfield 261, 3) := by decide +kernel
theorem d_On_act_8 : decode b_On_act 8 = .ok (.aload_n 0, 1) := by decide +kernel
theorem d_On_act_9 : decode b_On_act 9 = .ok (.iload_n 1, 1) := by decide +kernel
theorem d_On_act_10 : decode b_On_act 10 = .ok (.invokevirtual 82, 3) := by decide +kernel
theorem d_On_act_13 : decode b_On_act 13 = .ok (.ifCond .eq 12, 3) := by decide +kernel
theorem d_On_act_16 : decode b_On_act 16 = .ok (.iload_n 2, 1) := by decide +kernel
theorem d_On_act_17 : decode b_On_act 17 = .ok (.iconst 0, 1) := by decide +kernel
theorem d_On_act_18 : decode b_On_act 18 = .ok (.iconst 2, 1) := by decide +kernel
theorem d_On_act_19 : decode b_On_act 19 = .ok (.invokestatic 64, 3) := by decide +kernel
theorem d_On_act_22 : decode b_On_act 22 = .ok (.ifCond .ne 5, 3) := by decide +kernel
theorem d_On_act_25 : decode b_On_act 25 = .ok (.iconst 0, 1) := by decide +kernel
theorem d_On_act_26 : decode b_On_act 26 = .ok (.ireturn, 1) := by decide +kernel
theorem d_On_act_27 : decode b_On_act 27 = .ok (.aload_n 0, 1) := by decide +kernel
theorem d_On_act_28 : decode b_On_act 28 = .ok (.getfield 23, 3) := by decide +kernel
theorem d_On_act_31 : decode b_On_act 31 = .ok (.getfield 72, 3) := by decide +kernel
theorem d_On_act_34 : decode b_On_act 34 = .ok (.iload_n 1, 1) := by decide +kernel
theorem d_On_act_35 : decode b_On_act 35 = .ok (.aaload, 1) := by decide +kernel
theorem d_On_act_36 : decode b_On_act 36 = .ok (.astore 4, 2) := by decide +kernel
theorem d_On_act_38 : decode b_On_act 38 = .ok (.aload_n 0, 1) := by decide +kernel
theorem d_On_act_39 : decode b_On_act 39 = .ok (.getfield 53, 3) := by decide +kernel
theorem d_On_act_42 : decode b_On_act 42 = .ok (.aload 4, 2) := by decide +kernel
theorem d_On_act_44 : decode b_On_act 44 = .ok (.aload 4, 2) := by decide +kernel
theorem d_On_act_46 : decode b_On_act 46 = .ok (.getfield 86, 3) := by decide +kernel
theorem d_On_act_49 : decode b_On_act 49 = .ok (.iload_n 2, 1) := by decide +kernel
theorem d_On_act_50 : decode b_On_act 50 = .ok (.iload_n 3, 1) := by decide +kernel
theorem d_On_act_51 : decode b_On_act 51 = .ok (.iconst 0, 1) := by decide +kernel
theorem d_On_act_52 : decode b_On_act 52 = .ok (.invokevirtual 264, 3) := by decide +kernel
theorem d_On_act_55 : decode b_On_act 55 = .ok (.ireturn, 1) := by decide +kernel
theorem d_On_trace_0 : decode b_On_trace 0 = .ok (.iload_n 1, 1) := by decide +kernel
theorem d_On_trace_1 : decode b_On_trace 1 = .ok (.iconst 0, 1) := by decide +kernel
theorem d_On_trace_2 : decode b_On_trace 2 = .ok (.bipush 19, 2) := by decide +kernel
theorem d_On_trace_4 : decode b_On_trace 4 = .ok (.invokestatic 64, 3) := by decide +kernel
theorem d_On_trace_7 : decode b_On_trace 7 = .ok (.ifCond .eq 26, 3) := by decide +kernel
theorem d_On_trace_10 : decode b_On_trace 10 = .ok (.iload_n 1, 1) := by decide +kernel
theorem d_On_trace_11 : decode b_On_trace 11 = .ok (.aload_n 0, 1) := by decide +kernel
theorem d_On_trace_12 : decode b_On_trace 12 = .ok (.getfield 53, 3) := by decide +kernel
theorem d_On_trace_15 : decode b_On_trace 15 = .ok (.getfield 261, 3) := by decide +kernel
theorem d_On_trace_18 : decode b_On_trace 18 = .ok (.if_icmp .ge 15, 3) := by decide +kernel
theorem d_On_trace_21 : decode b_On_trace 21 = .ok (.aload_n 0, 1) := by decide +kernel
theorem d_On_trace_22 : decode b_On_trace 22 = .ok (.getfield 53, 3) := by decide +kernel
theorem d_On_trace_25 : decode b_On_trace 25 = .ok (.getfield 268, 3) := by decide +kernel
theorem d_On_trace_28 : decode b_On_trace 28 = .ok (.iload_n 1, 1) := by decide +kernel
theorem d_On_trace_29 : decode b_On_trace 29 = .ok (.iaload, 1) := by decide +kernel
theorem d_On_trace_30 : decode b_On_trace 30 = .ok (.goto 4, 3) := by decide +kernel
theorem d_On_trace_33 : decode b_On_trace 33 = .ok (.iconst (-1), 1) := by decide +kernel
theorem d_On_trace_34 : decode b_On_trace 34 = .ok (.ireturn, 1) := by decide +kernel
theorem d_On_taken_0 : decode b_On_taken 0 = .ok (.iload_n 2, 1) := by decide +kernel
theorem d_On_taken_1 : decode b_On_taken 1 = .ok (.iconst 0, 1) := by decide +kernel
theorem d_On_taken_2 : decode b_On_taken 2 = .ok (.bipush 6, 2) := by decide +kernel
theorem d_On_taken_4 : decode b_On_taken 4 = .ok (.invokestatic 64, 3) := by decide +kernel
theorem d_On_taken_7 : decode b_On_taken 7 = .ok (.ifCond .ne 6, 3) := by decide +kernel
theorem d_On_taken_10 : decode b_On_taken 10 = .ok (.bipush (-2), 2) := by decide +kernel
theorem d_On_taken_12 : decode b_On_taken 12 = .ok (.ireturn, 1) := by decide +kernel
theorem d_On_taken_13 : decode b_On_taken 13 = .ok (.aload_n 0, 1) := by decide +kernel
theorem d_On_taken_14 : decode b_On_taken 14 = .ok (.iload_n 1, 1) := by decide +kernel
theorem d_On_taken_15 : decode b_On_taken 15 = .ok (.invokevirtual 82, 3) := by decide +kernel
theorem d_On_taken_18 : decode b_On_taken 18 = .ok (.ifCond .ne 6, 3) := by decide +kernel
theorem d_On_taken_21 : decode b_On_taken 21 = .ok (.bipush (-11), 2) := by decide +kernel
theorem d_On_taken_23 : decode b_On_taken 23 = .ok (.ireturn, 1) := by decide +kernel
theorem d_On_taken_24 : decode b_On_taken 24 = .ok (.aload_n 0, 1) := by decide +kernel
theorem d_On_taken_25 : decode b_On_taken 25 = .ok (.getfield 23, 3) := by decide +kernel
theorem d_On_taken_28 : decode b_On_taken 28 = .ok (.getfield 72, 3) := by decide +kernel
theorem d_On_taken_31 : decode b_On_taken 31 = .ok (.iload_n 1, 1) := by decide +kernel
theorem d_On_taken_32 : decode b_On_taken 32 = .ok (.aaload, 1) := by decide +kernel
theorem d_On_taken_33 : decode b_On_taken 33 = .ok (.getfield 86, 3) := by decide +kernel
theorem d_On_taken_36 : decode b_On_taken 36 = .ok (.istore_n 3, 1) := by decide +kernel
theorem d_On_taken_37 : decode b_On_taken 37 = .ok (.iload_n 3, 1) := by decide +kernel
theorem d_On_taken_38 : decode b_On_taken 38 = .ok (.istore 4, 2) := by decide +kernel
theorem d_On_taken_40 : decode b_On_taken 40 = .ok (.getstatic 271, 3) := by decide +kernel
theorem d_On_taken_43 : decode b_On_taken 43 = .ok (.arraylength, 1) := by decide +kernel
theorem d_On_taken_44 : decode b_On_taken 44 = .ok (.istore 5, 2) := by decide +kernel
theorem d_On_taken_46 : decode b_On_taken 46 = .ok (.iload 5, 2) := by decide +kernel
theorem d_On_taken_48 : decode b_On_taken 48 = .ok (.ifCond .le 22, 3) := by decide +kernel
theorem d_On_taken_51 : decode b_On_taken 51 = .ok (.iload 4, 2) := by decide +kernel
theorem d_On_taken_53 : decode b_On_taken 53 = .ok (.iload_n 2, 1) := by decide +kernel
theorem d_On_taken_54 : decode b_On_taken 54 = .ok (.if_icmp .eq 16, 3) := by decide +kernel
theorem d_On_taken_57 : decode b_On_taken 57 = .ok (.iload 4, 2) := by decide +kernel
theorem d_On_taken_59 : decode b_On_taken 59 = .ok (.invokestatic 274, 3) := by decide +kernel
theorem d_On_taken_62 : decode b_On_taken 62 = .ok (.istore 4, 2) := by decide +kernel
theorem d_On_taken_64 : decode b_On_taken 64 = .ok (.iinc 5 (-1), 3) := by decide +kernel
theorem d_On_taken_67 : decode b_On_taken 67 = .ok (.goto (-21), 3) := by decide +kernel
theorem d_On_taken_70 : decode b_On_taken 70 = .ok (.iload 4, 2) := by decide +kernel
theorem d_On_taken_72 : decode b_On_taken 72 = .ok (.iload_n 2, 1) := by decide +kernel
theorem d_On_taken_73 : decode b_On_taken 73 = .ok (.if_icmp .ne 7, 3) := by decide +kernel
theorem d_On_taken_76 : decode b_On_taken 76 = .ok (.iload_n 3, 1) := by decide +kernel
theorem d_On_taken_77 : decode b_On_taken 77 = .ok (.goto 5, 3) := by decide +kernel
theorem d_On_taken_80 : decode b_On_taken 80 = .ok (.bipush (-12), 2) := by decide +kernel
theorem d_On_taken_82 : decode b_On_taken 82 = .ok (.ireturn, 1) := by decide +kernel
theorem d_On_count_0 : decode b_On_count 0 = .ok (.iload_n 1, 1) := by decide +kernel
theorem d_On_count_1 : decode b_On_count 1 = .ok (.tableswitch 117 0 7 #[47, 55, 60, 68, 79, 90, 101, 109], 47) := by decide +kernel
theorem d_On_count_48 : decode b_On_count 48 = .ok (.aload_n 0, 1) := by decide +kernel
theorem d_On_count_49 : decode b_On_count 49 = .ok (.getfield 23, 3) := by decide +kernel
theorem d_On_count_52 : decode b_On_count 52 = .ok (.getfield 68, 3) := by decide +kernel
theorem d_On_count_55 : decode b_On_count 55 = .ok (.ireturn, 1) := by decide +kernel
theorem d_On_count_56 : decode b_On_count 56 = .ok (.aload_n 0, 1) := by decide +kernel
theorem d_On_count_57 : decode b_On_count 57 = .ok (.getfield 135, 3) := by decide +kernel
theorem d_On_count_60 : decode b_On_count 60 = .ok (.ireturn, 1) := by decide +kernel
theorem d_On_count_61 : decode b_On_count 61 = .ok (.aload_n 0, 1) := by decide +kernel
theorem d_On_count_62 : decode b_On_count 62 = .ok (.getfield 23, 3) := by decide +kernel
theorem d_On_count_65 : decode b_On_count 65 = .ok (.getfield 118, 3) := by decide +kernel
theorem d_On_count_68 : decode b_On_count 68 = .ok (.ireturn, 1) := by decide +kernel
theorem d_On_count_69 : decode b_On_count 69 = .ok (.aload_n 0, 1) := by decide +kernel
theorem d_On_count_70 : decode b_On_count 70 = .ok (.getfield 23, 3) := by decide +kernel
theorem d_On_count_73 : decode b_On_count 73 = .ok (.getfield 201, 3) := by decide +kernel
theorem d_On_count_76 : decode b_On_count 76 = .ok (.getfield 205, 3) := by decide +kernel
theorem d_On_count_79 : decode b_On_count 79 = .ok (.ireturn, 1) := by decide +kernel
theorem d_On_count_80 : decode b_On_count 80 = .ok (.aload_n 0, 1) := by decide +kernel
theorem d_On_count_81 : decode b_On_count 81 = .ok (.getfield 23, 3) := by decide +kernel
theorem d_On_count_84 : decode b_On_count 84 = .ok (.getfield 232, 3) := by decide +kernel
theorem d_On_count_87 : decode b_On_count 87 = .ok (.getfield 205, 3) := by decide +kernel
theorem d_On_count_90 : decode b_On_count 90 = .ok (.ireturn, 1) := by decide +kernel
theorem d_On_count_91 : decode b_On_count 91 = .ok (.aload_n 0, 1) := by decide +kernel
theorem d_On_count_92 : decode b_On_count 92 = .ok (.getfield 23, 3) := by decide +kernel
theorem d_On_count_95 : decode b_On_count 95 = .ok (.getfield 238, 3) := by decide +kernel
theorem d_On_count_98 : decode b_On_count 98 = .ok (.getfield 205, 3) := by decide +kernel
theorem d_On_count_101 : decode b_On_count 101 = .ok (.ireturn, 1) := by decide +kernel
theorem d_On_count_102 : decode b_On_count 102 = .ok (.aload_n 0, 1) := by decide +kernel
theorem d_On_count_103 : decode b_On_count 103 = .ok (.getfield 36, 3) := by decide +kernel
theorem d_On_count_106 : decode b_On_count 106 = .ok (.getfield 128, 3) := by decide +kernel
theorem d_On_count_109 : decode b_On_count 109 = .ok (.ireturn, 1) := by decide +kernel
theorem d_On_count_110 : decode b_On_count 110 = .ok (.aload_n 0, 1) := by decide +kernel
theorem d_On_count_111 : decode b_On_count 111 = .ok (.getfield 53, 3) := by decide +kernel
theorem d_On_count_114 : decode b_On_count 114 = .ok (.getfield 261, 3) := by decide +kernel
theorem d_On_count_117 : decode b_On_count 117 = .ok (.ireturn, 1) := by decide +kernel
theorem d_On_count_118 : decode b_On_count 118 = .ok (.bipush (-2), 2) := by decide +kernel
theorem d_On_count_120 : decode b_On_count 120 = .ok (.ireturn, 1) := by decide +kernel
theorem d_On_tape_0 : decode b_On_tape 0 = .ok (.iload_n 1, 1) := by decide +kernel
theorem d_On_tape_1 : decode b_On_tape 1 = .ok (.invokestatic 247, 3) := by decide +kernel
theorem d_On_tape_4 : decode b_On_tape 4 = .ok (.ifCond .ne 5, 3) := by decide +kernel
theorem d_On_tape_7 : decode b_On_tape 7 = .ok (.iconst (-1), 1) := by decide +kernel
theorem d_On_tape_8 : decode b_On_tape 8 = .ok (.ireturn, 1) := by decide +kernel
theorem d_On_tape_9 : decode b_On_tape 9 = .ok (.iload_n 2, 1) := by decide +kernel
theorem d_On_tape_10 : decode b_On_tape 10 = .ok (.iconst (-1), 1) := by decide +kernel
theorem d_On_tape_11 : decode b_On_tape 11 = .ok (.if_icmp .ne 16, 3) := by decide +kernel
theorem d_On_tape_14 : decode b_On_tape 14 = .ok (.aload_n 0, 1) := by decide +kernel
theorem d_On_tape_15 : decode b_On_tape 15 = .ok (.getfield 59, 3) := by decide +kernel
theorem d_On_tape_18 : decode b_On_tape 18 = .ok (.iload_n 1, 1) := by decide +kernel
theorem d_On_tape_19 : decode b_On_tape 19 = .ok (.aaload, 1) := by decide +kernel
theorem d_On_tape_20 : decode b_On_tape 20 = .ok (.iload_n 2, 1) := by decide +kernel
theorem d_On_tape_21 : decode b_On_tape 21 = .ok (.iconst 0, 1) := by decide +kernel
theorem d_On_tape_22 : decode b_On_tape 22 = .ok (.invokevirtual 277, 3) := by decide +kernel
theorem d_On_tape_25 : decode b_On_tape 25 = .ok (.iconst 1, 1) := by decide +kernel
theorem d_On_tape_26 : decode b_On_tape 26 = .ok (.ireturn, 1) := by decide +kernel
theorem d_On_tape_27 : decode b_On_tape 27 = .ok (.iload_n 2, 1) := by decide +kernel
theorem d_On_tape_28 : decode b_On_tape 28 = .ok (.iconst 0, 1) := by decide +kernel
theorem d_On_tape_29 : decode b_On_tape 29 = .ok (.iconst 4, 1) := by decide +kernel
theorem d_On_tape_30 : decode b_On_tape 30 = .ok (.invokestatic 64, 3) := by decide +kernel
theorem d_On_tape_33 : decode b_On_tape 33 = .ok (.ifCond .eq 9, 3) := by decide +kernel
theorem d_On_tape_36 : decode b_On_tape 36 = .ok (.iload_n 3, 1) := by decide +kernel
theorem d_On_tape_37 : decode b_On_tape 37 = .ok (.bipush 60, 2) := by decide +kernel
theorem d_On_tape_39 : decode b_On_tape 39 = .ok (.if_icmp .le 6, 3) := by decide +kernel
theorem d_On_tape_42 : decode b_On_tape 42 = .ok (.bipush (-2), 2) := by decide +kernel
theorem d_On_tape_44 : decode b_On_tape 44 = .ok (.ireturn, 1) := by decide +kernel
theorem d_On_tape_45 : decode b_On_tape 45 = .ok (.iload_n 3, 1) := by decide +kernel
theorem d_On_tape_46 : decode b_On_tape 46 = .ok (.ifCond .ge 6, 3) := by decide +kernel
theorem d_On_tape_49 : decode b_On_tape 49 = .ok (.bipush (-14), 2) := by decide +kernel
theorem d_On_tape_51 : decode b_On_tape 51 = .ok (.ireturn, 1) := by decide +kernel
theorem d_On_tape_52 : decode b_On_tape 52 = .ok (.aload_n 0, 1) := by decide +kernel
theorem d_On_tape_53 : decode b_On_tape 53 = .ok (.getfield 59, 3) := by decide +kernel
theorem d_On_tape_56 : decode b_On_tape 56 = .ok (.iload_n 1, 1) := by decide +kernel
theorem d_On_tape_57 : decode b_On_tape 57 = .ok (.aaload, 1) := by decide +kernel
theorem d_On_tape_58 : decode b_On_tape 58 = .ok (.iload_n 2, 1) := by decide +kernel
theorem d_On_tape_59 : decode b_On_tape 59 = .ok (.iload_n 3, 1) := by decide +kernel
theorem d_On_tape_60 : decode b_On_tape 60 = .ok (.invokevirtual 277, 3) := by decide +kernel
theorem d_On_tape_63 : decode b_On_tape 63 = .ok (.iconst 1, 1) := by decide +kernel
theorem d_On_tape_64 : decode b_On_tape 64 = .ok (.ireturn, 1) := by decide +kernel
theorem d_On_item_0 : decode b_On_item 0 = .ok (.iload_n 1, 1) := by decide +kernel
theorem d_On_item_1 : decode b_On_item 1 = .ok (.invokestatic 247, 3) := by decide +kernel
theorem d_On_item_4 : decode b_On_item 4 = .ok (.ifCond .ne 5, 3) := by decide +kernel
theorem d_On_item_7 : decode b_On_item 7 = .ok (.iconst (-1), 1) := by decide +kernel
theorem d_On_item_8 : decode b_On_item 8 = .ok (.ireturn, 1) := by decide +kernel
theorem d_On_item_9 : decode b_On_item 9 = .ok (.aload_n 0, 1) := by decide +kernel
theorem d_On_item_10 : decode b_On_item 10 = .ok (.getfield 59, 3) := by decide +kernel
theorem d_On_item_13 : decode b_On_item 13 = .ok (.iload_n 1, 1) := by decide +kernel
theorem d_On_item_14 : decode b_On_item 14 = .ok (.aaload, 1) := by decide +kernel
theorem d_On_item_15 : decode b_On_item 15 = .ok (.astore 5, 2) := by decide +kernel
theorem d_On_item_17 : decode b_On_item 17 = .ok (.aload 5, 2) := by decide +kernel
theorem d_On_item_19 : decode b_On_item 19 = .ok (.getfield 250, 3) := by decide +kernel
theorem d_On_item_22 : decode b_On_item 22 = .ok (.iconst (-1), 1) := by decide +kernel
theorem d_On_item_23 : decode b_On_item 23 = .ok (.if_icmp .ne 6, 3) := by decide +kernel
theorem d_On_item_26 : decode b_On_item 26 = .ok (.bipush (-11), 2) := by decide +kernel
theorem d_On_item_28 : decode b_On_item 28 = .ok (.ireturn, 1) := by decide +kernel
theorem d_On_item_29 : decode b_On_item 29 = .ok (.iload_n 2, 1) := by decide +kernel
theorem d_On_item_30 : decode b_On_item 30 = .ok (.iconst 0, 1) := by decide +kernel
theorem d_On_item_31 : decode b_On_item 31 = .ok (.aload 5, 2) := by decide +kernel
theorem d_On_item_33 : decode b_On_item 33 = .ok (.getfield 253, 3) := by decide +kernel
theorem d_On_item_36 : decode b_On_item 36 = .ok (.iconst 1, 1) := by decide +kernel
theorem d_On_item_37 : decode b_On_item 37 = .ok (.isub, 1) := by decide +kernel
theorem d_On_item_38 : decode b_On_item 38 = .ok (.invokestatic 64, 3) := by decide +kernel
theorem d_On_item_41 : decode b_On_item 41 = .ok (.ifCond .ne 6, 3) := by decide +kernel
theorem d_On_item_44 : decode b_On_item 44 = .ok (.bipush (-13), 2) := by decide +kernel
theorem d_On_item_46 : decode b_On_item 46 = .ok (.ireturn, 1) := by decide +kernel
theorem d_On_item_47 : decode b_On_item 47 = .ok (.aload 5, 2) := by decide +kernel
theorem d_On_item_49 : decode b_On_item 49 = .ok (.getfield 254, 3) := by decide +kernel
theorem d_On_item_52 : decode b_On_item 52 = .ok (.iload_n 2, 1) := by decide +kernel
theorem d_On_item_53 : decode b_On_item 53 = .ok (.aload 5, 2) := by decide +kernel
theorem d_On_item_55 : decode b_On_item 55 = .ok (.lload_n 3, 1) := by decide +kernel
theorem d_On_item_56 : decode b_On_item 56 = .ok (.invokevirtual 279, 3) := by decide +kernel
theorem d_On_item_59 : decode b_On_item 59 = .ok (.lastore, 1) := by decide +kernel
theorem d_On_item_60 : decode b_On_item 60 = .ok (.iconst 1, 1) := by decide +kernel
theorem d_On_item_61 : decode b_On_item 61 = .ok (.ireturn, 1) := by decide +kernel
theorem d_On_read_0 : decode b_On_read 0 = .ok (.iload_n 1, 1) := by decide +kernel
theorem d_On_read_1 : decode b_On_read 1 = .ok (.invokestatic 247, 3) := by decide +kernel
theorem d_On_read_4 : decode b_On_read 4 = .ok (.ifCond .eq 22, 3) := by decide +kernel
theorem d_On_read_7 : decode b_On_read 7 = .ok (.iload_n 2, 1) := by decide +kernel
theorem d_On_read_8 : decode b_On_read 8 = .ok (.iconst 0, 1) := by decide +kernel
theorem d_On_read_9 : decode b_On_read 9 = .ok (.aload_n 0, 1) := by decide +kernel
theorem d_On_read_10 : decode b_On_read 10 = .ok (.getfield 59, 3) := by decide +kernel
theorem d_On_read_13 : decode b_On_read 13 = .ok (.iload_n 1, 1) := by decide +kernel
theorem d_On_read_14 : decode b_On_read 14 = .ok (.aaload, 1) := by decide +kernel
theorem d_On_read_15 : decode b_On_read 15 = .ok (.getfield 253, 3) := by decide +kernel
theorem d_On_read_18 : decode b_On_read 18 = .ok (.iconst 1, 1) := by decide +kernel
theorem d_On_read_19 : decode b_On_read 19 = .ok (.isub, 1) := by decide +kernel
theorem d_On_read_20 : decode b_On_read 20 = .ok (.invokestatic 64, 3) := by decide +kernel
theorem d_On_read_23 : decode b_On_read 23 = .ok (.ifCond .ne 7, 3) := by decide +kernel
theorem d_On_read_26 : decode b_On_read 26 = .ok (.ldc2_w 216, 3) := by decide +kernel
theorem d_On_read_29 : decode b_On_read 29 = .ok (.lreturn, 1) := by decide +kernel
theorem d_On_read_30 : decode b_On_read 30 = .ok (.aload_n 0, 1) := by decide +kernel
theorem d_On_read_31 : decode b_On_read 31 = .ok (.getfield 59, 3) := by decide +kernel
theorem d_On_read_34 : decode b_On_read 34 = .ok (.iload_n 1, 1) := by decide +kernel
theorem d_On_read_35 : decode b_On_read 35 = .ok (.aaload, 1) := by decide +kernel
theorem d_On_read_36 : decode b_On_read 36 = .ok (.getfield 254, 3) := by decide +kernel
theorem d_On_read_39 : decode b_On_read 39 = .ok (.iload_n 2, 1) := by decide +kernel
theorem d_On_read_40 : decode b_On_read 40 = .ok (.laload, 1) := by decide +kernel
theorem d_On_read_41 : decode b_On_read 41 = .ok (.lreturn, 1) := by decide +kernel
theorem d_On_shift_0 : decode b_On_shift 0 = .ok (.iload_n 1, 1) := by decide +kernel
theorem d_On_shift_1 : decode b_On_shift 1 = .ok (.invokestatic 247, 3) := by decide +kernel
theorem d_On_shift_4 : decode b_On_shift 4 = .ok (.ifCond .eq 10, 3) := by decide +kernel
theorem d_On_shift_7 : decode b_On_shift 7 = .ok (.iload_n 3, 1) := by decide +kernel
theorem d_On_shift_8 : decode b_On_shift 8 = .ok (.invokestatic 247, 3) := by decide +kernel
theorem d_On_shift_11 : decode b_On_shift 11 = .ok (.ifCond .ne 5, 3) := by decide +kernel
theorem d_On_shift_14 : decode b_On_shift 14 = .ok (.iconst (-1), 1) := by decide +kernel
theorem d_On_shift_15 : decode b_On_shift 15 = .ok (.ireturn, 1) := by decide +kernel
theorem d_On_shift_16 : decode b_On_shift 16 = .ok (.aload_n 0, 1) := by decide +kernel
theorem d_On_shift_17 : decode b_On_shift 17 = .ok (.getfield 59, 3) := by decide +kernel
theorem d_On_shift_20 : decode b_On_shift 20 = .ok (.iload_n 1, 1) := by decide +kernel
theorem d_On_shift_21 : decode b_On_shift 21 = .ok (.aaload, 1) := by decide +kernel
theorem d_On_shift_22 : decode b_On_shift 22 = .ok (.astore 6, 2) := by decide +kernel
theorem d_On_shift_24 : decode b_On_shift 24 = .ok (.aload_n 0, 1) := by decide +kernel
theorem d_On_shift_25 : decode b_On_shift 25 = .ok (.getfield 59, 3) := by decide +kernel
theorem d_On_shift_28 : decode b_On_shift 28 = .ok (.iload_n 3, 1) := by decide +kernel
theorem d_On_shift_29 : decode b_On_shift 29 = .ok (.aaload, 1) := by decide +kernel
theorem d_On_shift_30 : decode b_On_shift 30 = .ok (.astore 7, 2) := by decide +kernel
theorem d_On_shift_32 : decode b_On_shift 32 = .ok (.aload 6, 2) := by decide +kernel
theorem d_On_shift_34 : decode b_On_shift 34 = .ok (.getfield 250, 3) := by decide +kernel
theorem d_On_shift_37 : decode b_On_shift 37 = .ok (.iconst (-1), 1) := by decide +kernel
theorem d_On_shift_38 : decode b_On_shift 38 = .ok (.if_icmp .eq 12, 3) := by decide +kernel
theorem d_On_shift_41 : decode b_On_shift 41 = .ok (.aload 7, 2) := by decide +kernel
theorem d_On_shift_43 : decode b_On_shift 43 = .ok (.getfield 250, 3) := by decide +kernel
theorem d_On_shift_46 : decode b_On_shift 46 = .ok (.iconst (-1), 1) := by decide +kernel
theorem d_On_shift_47 : decode b_On_shift 47 = .ok (.if_icmp .ne 6, 3) := by decide +kernel
theorem d_On_shift_50 : decode b_On_shift 50 = .ok (.bipush (-11), 2) := by decide +kernel
theorem d_On_shift_52 : decode b_On_shift 52 = .ok (.ireturn, 1) := by decide +kernel
theorem d_On_shift_53 : decode b_On_shift 53 = .ok (.aload 6, 2) := by decide +kernel
theorem d_On_shift_55 : decode b_On_shift 55 = .ok (.getfield 250, 3) := by decide +kernel
theorem d_On_shift_58 : decode b_On_shift 58 = .ok (.aload 7, 2) := by decide +kernel
theorem d_On_shift_60 : decode b_On_shift 60 = .ok (.getfield 250, 3) := by decide +kernel
theorem d_On_shift_63 : decode b_On_shift 63 = .ok (.if_icmp .eq 6, 3) := by decide +kernel
theorem d_On_shift_66 : decode b_On_shift 66 = .ok (.bipush (-12), 2) := by decide +kernel
theorem d_On_shift_68 : decode b_On_shift 68 = .ok (.ireturn, 1) := by decide +kernel
theorem d_On_shift_69 : decode b_On_shift 69 = .ok (.aload 6, 2) := by decide +kernel
theorem d_On_shift_71 : decode b_On_shift 71 = .ok (.iload_n 2, 1) := by decide +kernel
theorem d_On_shift_72 : decode b_On_shift 72 = .ok (.iload 5, 2) := by decide +kernel
theorem d_On_shift_74 : decode b_On_shift 74 = .ok (.invokevirtual 283, 3) := by decide +kernel
theorem d_On_shift_77 : decode b_On_shift 77 = .ok (.ifCond .eq 15, 3) := by decide +kernel
theorem d_On_shift_80 : decode b_On_shift 80 = .ok (.aload 7, 2) := by decide +kernel
theorem d_On_shift_82 : decode b_On_shift 82 = .ok (.iload 4, 2) := by decide +kernel
theorem d_On_shift_84 : decode b_On_shift 84 = .ok (.iload 5, 2) := by decide +kernel
theorem d_On_shift_86 : decode b_On_shift 86 = .ok (.invokevirtual 283, 3) := by decide +kernel
theorem d_On_shift_89 : decode b_On_shift 89 = .ok (.ifCond .ne 6, 3) := by decide +kernel
theorem d_On_shift_92 : decode b_On_shift 92 = .ok (.bipush (-13), 2) := by decide +kernel
theorem d_On_shift_94 : decode b_On_shift 94 = .ok (.ireturn, 1) := by decide +kernel
theorem d_On_shift_95 : decode b_On_shift 95 = .ok (.aload 6, 2) := by decide +kernel
theorem d_On_shift_97 : decode b_On_shift 97 = .ok (.getfield 254, 3) := by decide +kernel
theorem d_On_shift_100 : decode b_On_shift 100 = .ok (.iload_n 2, 1) := by decide +kernel
theorem d_On_shift_101 : decode b_On_shift 101 = .ok (.aload 7, 2) := by decide +kernel
theorem d_On_shift_103 : decode b_On_shift 103 = .ok (.getfield 254, 3) := by decide +kernel
theorem d_On_shift_106 : decode b_On_shift 106 = .ok (.iload 4, 2) := by decide +kernel
theorem d_On_shift_108 : decode b_On_shift 108 = .ok (.iload 5, 2) := by decide +kernel
theorem d_On_shift_110 : decode b_On_shift 110 = .ok (.invokestatic 287, 3) := by decide +kernel
theorem d_On_shift_113 : decode b_On_shift 113 = .ok (.iload 5, 2) := by decide +kernel
theorem d_On_shift_115 : decode b_On_shift 115 = .ok (.ireturn, 1) := by decide +kernel
theorem d_On_isMourner_0 : decode b_On_isMourner 0 = .ok (.iload_n 1, 1) := by decide +kernel
theorem d_On_isMourner_1 : decode b_On_isMourner 1 = .ok (.iconst 0, 1) := by decide +kernel
theorem d_On_isMourner_2 : decode b_On_isMourner 2 = .ok (.aload_n 0, 1) := by decide +kernel
theorem d_On_isMourner_3 : decode b_On_isMourner 3 = .ok (.getfield 23, 3) := by decide +kernel
theorem d_On_isMourner_6 : decode b_On_isMourner 6 = .ok (.getfield 68, 3) := by decide +kernel
theorem d_On_isMourner_9 : decode b_On_isMourner 9 = .ok (.iconst 1, 1) := by decide +kernel
theorem d_On_isMourner_10 : decode b_On_isMourner 10 = .ok (.isub, 1) := by decide +kernel
theorem d_On_isMourner_11 : decode b_On_isMourner 11 = .ok (.invokestatic 64, 3) := by decide +kernel
theorem d_On_isMourner_14 : decode b_On_isMourner 14 = .ok (.ireturn, 1) := by decide +kernel
theorem d_On_isTape_0 : decode b_On_isTape 0 = .ok (.iload_n 0, 1) := by decide +kernel
theorem d_On_isTape_1 : decode b_On_isTape 1 = .ok (.iconst 0, 1) := by decide +kernel
theorem d_On_isTape_2 : decode b_On_isTape 2 = .ok (.iconst 5, 1) := by decide +kernel
theorem d_On_isTape_3 : decode b_On_isTape 3 = .ok (.invokestatic 64, 3) := by decide +kernel
theorem d_On_isTape_6 : decode b_On_isTape 6 = .ok (.ireturn, 1) := by decide +kernel
theorem d_On_within_0 : decode b_On_within 0 = .ok (.iload_n 0, 1) := by decide +kernel
theorem d_On_within_1 : decode b_On_within 1 = .ok (.iload_n 1, 1) := by decide +kernel
theorem d_On_within_2 : decode b_On_within 2 = .ok (.if_icmp .lt 12, 3) := by decide +kernel
theorem d_On_within_5 : decode b_On_within 5 = .ok (.iload_n 0, 1) := by decide +kernel
theorem d_On_within_6 : decode b_On_within 6 = .ok (.iload_n 2, 1) := by decide +kernel
theorem d_On_within_7 : decode b_On_within 7 = .ok (.if_icmp .gt 7, 3) := by decide +kernel
theorem d_On_within_10 : decode b_On_within 10 = .ok (.iconst 1, 1) := by decide +kernel
theorem d_On_within_11 : decode b_On_within 11 = .ok (.goto 4, 3) := by decide +kernel
theorem d_On_within_14 : decode b_On_within 14 = .ok (.iconst 0, 1) := by decide +kernel
theorem d_On_within_15 : decode b_On_within 15 = .ok (.ireturn, 1) := by decide +kernel
theorem d_On_kindAbove_0 : decode b_On_kindAbove 0 = .ok (.iload_n 0, 1) := by decide +kernel
theorem d_On_kindAbove_1 : decode b_On_kindAbove 1 = .ok (.iconst 0, 1) := by decide +kernel
theorem d_On_kindAbove_2 : decode b_On_kindAbove 2 = .ok (.bipush 6, 2) := by decide +kernel
theorem d_On_kindAbove_4 : decode b_On_kindAbove 4 = .ok (.invokestatic 64, 3) := by decide +kernel
theorem d_On_kindAbove_7 : decode b_On_kindAbove 7 = .ok (.ifCond .eq 11, 3) := by decide +kernel
theorem d_On_kindAbove_10 : decode b_On_kindAbove 10 = .ok (.getstatic 271, 3) := by decide +kernel
theorem d_On_kindAbove_13 : decode b_On_kindAbove 13 = .ok (.iload_n 0, 1) := by decide +kernel
theorem d_On_kindAbove_14 : decode b_On_kindAbove 14 = .ok (.iaload, 1) := by decide +kernel
theorem d_On_kindAbove_15 : decode b_On_kindAbove 15 = .ok (.goto 4, 3) := by decide +kernel
theorem d_On_kindAbove_18 : decode b_On_kindAbove 18 = .ok (.iconst (-1), 1) := by decide +kernel
theorem d_On_kindAbove_19 : decode b_On_kindAbove 19 = .ok (.ireturn, 1) := by decide +kernel
theorem d_On_bit_0 : decode b_On_bit 0 = .ok (.iload_n 0, 1) := by decide +kernel
theorem d_On_bit_1 : decode b_On_bit 1 = .ok (.ifCond .eq 7, 3) := by decide +kernel
theorem d_On_bit_4 : decode b_On_bit 4 = .ok (.iconst 1, 1) := by decide +kernel
theorem d_On_bit_5 : decode b_On_bit 5 = .ok (.goto 4, 3) := by decide +kernel
theorem d_On_bit_8 : decode b_On_bit 8 = .ok (.iconst 0, 1) := by decide +kernel
theorem d_On_bit_9 : decode b_On_bit 9 = .ok (.ireturn, 1) := by decide +kernel
theorem d_On_inLowestTerms_0 : decode b_On_inLowestTerms 0 = .ok (.lload_n 0, 1) := by decide +kernel
theorem d_On_inLowestTerms_1 : decode b_On_inLowestTerms 1 = .ok (.lload_n 2, 1) := by decide +kernel
theorem d_On_inLowestTerms_2 : decode b_On_inLowestTerms 2 = .ok (.invokestatic 293, 3) := by decide +kernel
theorem d_On_inLowestTerms_5 : decode b_On_inLowestTerms 5 = .ok (.lstore 5, 2) := by decide +kernel
theorem d_On_inLowestTerms_7 : decode b_On_inLowestTerms 7 = .ok (.lload 5, 2) := by decide +kernel
theorem d_On_inLowestTerms_9 : decode b_On_inLowestTerms 9 = .ok (.lconst 0, 1) := by decide +kernel
theorem d_On_inLowestTerms_10 : decode b_On_inLowestTerms 10 = .ok (.lcmp, 1) := by decide +kernel
theorem d_On_inLowestTerms_11 : decode b_On_inLowestTerms 11 = .ok (.ifCond .ne 7, 3) := by decide +kernel
theorem d_On_inLowestTerms_14 : decode b_On_inLowestTerms 14 = .ok (.ldc2_w 216, 3) := by decide +kernel
theorem d_On_inLowestTerms_17 : decode b_On_inLowestTerms 17 = .ok (.lreturn, 1) := by decide +kernel
theorem d_On_inLowestTerms_18 : decode b_On_inLowestTerms 18 = .ok (.iload 4, 2) := by decide +kernel
theorem d_On_inLowestTerms_20 : decode b_On_inLowestTerms 20 = .ok (.ifCond .ne 7, 3) := by decide +kernel
theorem d_On_inLowestTerms_23 : decode b_On_inLowestTerms 23 = .ok (.lload_n 0, 1) := by decide +kernel
theorem d_On_inLowestTerms_24 : decode b_On_inLowestTerms 24 = .ok (.goto 4, 3) := by decide +kernel
theorem d_On_inLowestTerms_27 : decode b_On_inLowestTerms 27 = .ok (.lload_n 2, 1) := by decide +kernel
theorem d_On_inLowestTerms_28 : decode b_On_inLowestTerms 28 = .ok (.lload 5, 2) := by decide +kernel
theorem d_On_inLowestTerms_30 : decode b_On_inLowestTerms 30 = .ok (.ldiv, 1) := by decide +kernel
theorem d_On_inLowestTerms_31 : decode b_On_inLowestTerms 31 = .ok (.lreturn, 1) := by decide +kernel
theorem d_On_commonDivisor_0 : decode b_On_commonDivisor 0 = .ok (.bipush 100, 2) := by decide +kernel
theorem d_On_commonDivisor_2 : decode b_On_commonDivisor 2 = .ok (.istore 4, 2) := by decide +kernel
theorem d_On_commonDivisor_4 : decode b_On_commonDivisor 4 = .ok (.iload 4, 2) := by decide +kernel
theorem d_On_commonDivisor_6 : decode b_On_commonDivisor 6 = .ok (.ifCond .le 25, 3) := by decide +kernel
theorem d_On_commonDivisor_9 : decode b_On_commonDivisor 9 = .ok (.lload_n 2, 1) := by decide +kernel
theorem d_On_commonDivisor_10 : decode b_On_commonDivisor 10 = .ok (.lconst 0, 1) := by decide +kernel
theorem d_On_commonDivisor_11 : decode b_On_commonDivisor 11 = .ok (.lcmp, 1) := by decide +kernel
theorem d_On_commonDivisor_12 : decode b_On_commonDivisor 12 = .ok (.ifCond .eq 19, 3) := by decide +kernel
theorem d_On_commonDivisor_15 : decode b_On_commonDivisor 15 = .ok (.lload_n 0, 1) := by decide +kernel
theorem d_On_commonDivisor_16 : decode b_On_commonDivisor 16 = .ok (.lload_n 2, 1) := by decide +kernel
theorem d_On_commonDivisor_17 : decode b_On_commonDivisor 17 = .ok (.lrem, 1) := by decide +kernel
theorem d_On_commonDivisor_18 : decode b_On_commonDivisor 18 = .ok (.lstore 5, 2) := by decide +kernel
theorem d_On_commonDivisor_20 : decode b_On_commonDivisor 20 = .ok (.lload_n 2, 1) := by decide +kernel
theorem d_On_commonDivisor_21 : decode b_On_commonDivisor 21 = .ok (.lstore_n 0, 1) := by decide +kernel
theorem d_On_commonDivisor_22 : decode b_On_commonDivisor 22 = .ok (.lload 5, 2) := by decide +kernel
theorem d_On_commonDivisor_24 : decode b_On_commonDivisor 24 = .ok (.lstore_n 2, 1) := by decide +kernel
theorem d_On_commonDivisor_25 : decode b_On_commonDivisor 25 = .ok (.iinc 4 (-1), 3) := by decide +kernel
theorem d_On_commonDivisor_28 : decode b_On_commonDivisor 28 = .ok (.goto (-24), 3) := by decide +kernel
theorem d_On_commonDivisor_31 : decode b_On_commonDivisor 31 = .ok (.lload_n 0, 1) := by decide +kernel
theorem d_On_commonDivisor_32 : decode b_On_commonDivisor 32 = .ok (.lreturn, 1) := by decide +kernel
theorem d_Md_init_0 : decode b_Md_init 0 = .ok (.aload_n 0, 1) := by decide +kernel
theorem d_Md_init_1 : decode b_Md_init 1 = .ok (.invokespecial 3, 3) := by decide +kernel
theorem d_Md_init_4 : decode b_Md_init 4 = .ok (.aload_n 0, 1) := by decide +kernel
theorem d_Md_init_5 : decode b_Md_init 5 = .ok (.bipush 6, 2) := by decide +kernel
theorem d_Md_init_7 : decode b_Md_init 7 = .ok (.newarray .int, 2) := by decide +kernel
theorem d_Md_init_9 : decode b_Md_init 9 = .ok (.putfield 9, 3) := by decide +kernel
theorem d_Md_init_12 : decode b_Md_init 12 = .ok (.aload_n 0, 1) := by decide +kernel
theorem d_Md_init_13 : decode b_Md_init 13 = .ok (.bipush 6, 2) := by decide +kernel
theorem d_Md_init_15 : decode b_Md_init 15 = .ok (.newarray .int, 2) := by decide +kernel
theorem d_Md_init_17 : decode b_Md_init 17 = .ok (.putfield 15, 3) := by decide +kernel
theorem d_Md_init_20 : decode b_Md_init 20 = .ok (.aload_n 0, 1) := by decide +kernel
theorem d_Md_init_21 : decode b_Md_init 21 = .ok (.bipush 6, 2) := by decide +kernel
theorem d_Md_init_23 : decode b_Md_init 23 = .ok (.newarray .int, 2) := by decide +kernel
theorem d_Md_init_25 : decode b_Md_init 25 = .ok (.putfield 18, 3) := by decide +kernel
theorem d_Md_init_28 : decode b_Md_init 28 = .ok (.aload_n 0, 1) := by decide +kernel
theorem d_Md_init_29 : decode b_Md_init 29 = .ok (.bipush 6, 2) := by decide +kernel
theorem d_Md_init_31 : decode b_Md_init 31 = .ok (.newarray .int, 2) := by decide +kernel
theorem d_Md_init_33 : decode b_Md_init 33 = .ok (.putfield 21, 3) := by decide +kernel
theorem d_Md_init_36 : decode b_Md_init 36 = .ok (.aload_n 0, 1) := by decide +kernel
theorem d_Md_init_37 : decode b_Md_init 37 = .ok (.bipush 6, 2) := by decide +kernel
theorem d_Md_init_39 : decode b_Md_init 39 = .ok (.newarray .int, 2) := by decide +kernel
theorem d_Md_init_41 : decode b_Md_init 41 = .ok (.putfield 24, 3) := by decide +kernel
theorem d_Md_init_44 : decode b_Md_init 44 = .ok (.aload_n 0, 1) := by decide +kernel
theorem d_Md_init_45 : decode b_Md_init 45 = .ok (.bipush 6, 2) := by decide +kernel
theorem d_Md_init_47 : decode b_Md_init 47 = .ok (.newarray .int, 2) := by decide +kernel
theorem d_Md_init_49 : decode b_Md_init 49 = .ok (.putfield 27, 3) := by decide +kernel
theorem d_Md_init_52 : decode b_Md_init 52 = .ok (.aload_n 0, 1) := by decide +kernel
theorem d_Md_init_53 : decode b_Md_init 53 = .ok (.bipush 24, 2) := by decide +kernel
theorem d_Md_init_55 : decode b_Md_init 55 = .ok (.newarray .int, 2) := by decide +kernel
theorem d_Md_init_57 : decode b_Md_init 57 = .ok (.putfield 30, 3) := by decide +kernel
theorem d_Md_init_60 : decode b_Md_init 60 = .ok (.aload_n 0, 1) := by decide +kernel
theorem d_Md_init_61 : decode b_Md_init 61 = .ok (.bipush 6, 2) := by decide +kernel
theorem d_Md_init_63 : decode b_Md_init 63 = .ok (.newarray .int, 2) := by decide +kernel
theorem d_Md_init_65 : decode b_Md_init 65 = .ok (.putfield 33, 3) := by decide +kernel
theorem d_Md_init_68 : decode b_Md_init 68 = .ok (.aload_n 0, 1) := by decide +kernel
theorem d_Md_init_69 : decode b_Md_init 69 = .ok (.bipush 100, 2) := by decide +kernel
theorem d_Md_init_71 : decode b_Md_init 71 = .ok (.newarray .int, 2) := by decide +kernel
theorem d_Md_init_73 : decode b_Md_init 73 = .ok (.putfield 36, 3) := by decide +kernel
theorem d_Md_init_76 : decode b_Md_init 76 = .ok (.aload_n 0, 1) := by decide +kernel
theorem d_Md_init_77 : decode b_Md_init 77 = .ok (.bipush 6, 2) := by decide +kernel
theorem d_Md_init_79 : decode b_Md_init 79 = .ok (.newarray .int, 2) := by decide +kernel
theorem d_Md_init_81 : decode b_Md_init 81 = .ok (.putfield 39, 3) := by decide +kernel
theorem d_Md_init_84 : decode b_Md_init 84 = .ok (.aload_n 0, 1) := by decide +kernel
theorem d_Md_init_85 : decode b_Md_init 85 = .ok (.bipush 61, 2) := by decide +kernel
theorem d_Md_init_87 : decode b_Md_init 87 = .ok (.newarray .int, 2) := by decide +kernel
theorem d_Md_init_89 : decode b_Md_init 89 = .ok (.putfield 42, 3) := by decide +kernel
theorem d_Md_init_92 : decode b_Md_init 92 = .ok (.aload_n 0, 1) := by decide +kernel
theorem d_Md_init_93 : decode b_Md_init 93 = .ok (.bipush 61, 2) := by decide +kernel
theorem d_Md_init_95 : decode b_Md_init 95 = .ok (.newarray .int, 2) := by decide +kernel
theorem d_Md_init_97 : decode b_Md_init 97 = .ok (.putfield 45, 3) := by decide +kernel
theorem d_Md_init_100 : decode b_Md_init 100 = .ok (.aload_n 0, 1) := by decide +kernel
theorem d_Md_init_101 : decode b_Md_init 101 = .ok (.bipush 61, 2) := by decide +kernel
theorem d_Md_init_103 : decode b_Md_init 103 = .ok (.newarray .int, 2) := by decide +kernel
theorem d_Md_init_105 : decode b_Md_init 105 = .ok (.putfield 48, 3) := by decide +kernel
theorem d_Md_init_108 : decode b_Md_init 108 = .ok (.aload_n 0, 1) := by decide +kernel
theorem d_Md_init_109 : decode b_Md_init 109 = .ok (.bipush 61, 2) := by decide +kernel
theorem d_Md_init_111 : decode b_Md_init 111 = .ok (.newarray .int, 2) := by decide +kernel
theorem d_Md_init_113 : decode b_Md_init 113 = .ok (.putfield 51, 3) := by decide +kernel
theorem d_Md_init_116 : decode b_Md_init 116 = .ok (.aload_n 0, 1) := by decide +kernel
theorem d_Md_init_117 : decode b_Md_init 117 = .ok (.sipush 800, 3) := by decide +kernel
theorem d_Md_init_120 : decode b_Md_init 120 = .ok (.newarray .int, 2) := by decide +kernel
theorem d_Md_init_122 : decode b_Md_init 122 = .ok (.putfield 54, 3) := by decide +kernel
theorem d_Md_init_125 : decode b_Md_init 125 = .ok (.aload_n 0, 1) := by decide +kernel
theorem d_Md_init_126 : decode b_Md_init 126 = .ok (.bipush 110, 2) := by decide +kernel
theorem d_Md_init_128 : decode b_Md_init 128 = .ok (.newarray .boolean, 2) := by decide +kernel
theorem d_Md_init_130 : decode b_Md_init 130 = .ok (.putfield 57, 3) := by decide +kernel
theorem d_Md_init_133 : decode b_Md_init 133 = .ok (.aload_n 0, 1) := by decide +kernel
theorem d_Md_init_134 : decode b_Md_init 134 = .ok (.iconst 5, 1) := by decide +kernel
theorem d_Md_init_135 : decode b_Md_init 135 = .ok (.newarray .int, 2) := by decide +kernel
theorem d_Md_init_137 : decode b_Md_init 137 = .ok (.putfield 61, 3) := by decide +kernel
theorem d_Md_init_140 : decode b_Md_init 140 = .ok (.aload_n 0, 1) := by decide +kernel
theorem d_Md_init_141 : decode b_Md_init 141 = .ok (.iconst 5, 1) := by decide +kernel
theorem d_Md_init_142 : decode b_Md_init 142 = .ok (.newarray .int, 2) := by decide +kernel
theorem d_Md_init_144 : decode b_Md_init 144 = .ok (.putfield 64, 3) := by decide +kernel
theorem d_Md_init_147 : decode b_Md_init 147 = .ok (.aload_n 0, 1) := by decide +kernel
theorem d_Md_init_148 : decode b_Md_init 148 = .ok (.iconst 5, 1) := by decide +kernel
theorem d_Md_init_149 : decode b_Md_init 149 = .ok (.newarray .int, 2) := by decide +kernel
theorem d_Md_init_151 : decode b_Md_init 151 = .ok (.putfield 67, 3) := by decide +kernel
theorem d_Md_init_154 : decode b_Md_init 154 = .ok (.aload_n 0, 1) := by decide +kernel
theorem d_Md_init_155 : decode b_Md_init 155 = .ok (.bipush 10, 2) := by decide +kernel
theorem d_Md_init_157 : decode b_Md_init 157 = .ok (.newarray .int, 2) := by decide +kernel
theorem d_Md_init_159 : decode b_Md_init 159 = .ok (.putfield 70, 3) := by decide +kernel
theorem d_Md_init_162 : decode b_Md_init 162 = .ok (.aload_n 0, 1) := by decide +kernel
theorem d_Md_init_163 : decode b_Md_init 163 = .ok (.bipush 10, 2) := by decide +kernel
theorem d_Md_init_165 : decode b_Md_init 165 = .ok (.newarray .int, 2) := by decide +kernel
theorem d_Md_init_167 : decode b_Md_init 167 = .ok (.putfield 73, 3) := by decide +kernel
theorem d_Md_init_170 : decode b_Md_init 170 = .ok (.aload_n 0, 1) := by decide +kernel
theorem d_Md_init_171 : decode b_Md_init 171 = .ok (.bipush 8, 2) := by decide +kernel
theorem d_Md_init_173 : decode b_Md_init 173 = .ok (.newarray .int, 2) := by decide +kernel
theorem d_Md_init_175 : decode b_Md_init 175 = .ok (.putfield 76, 3) := by decide +kernel
theorem d_Md_init_178 : decode b_Md_init 178 = .ok (.aload_n 0, 1) := by decide +kernel
theorem d_Md_init_179 : decode b_Md_init 179 = .ok (.bipush 8, 2) := by decide +kernel
theorem d_Md_init_181 : decode b_Md_init 181 = .ok (.newarray .int, 2) := by decide +kernel
theorem d_Md_init_183 : decode b_Md_init 183 = .ok (.putfield 79, 3) := by decide +kernel
theorem d_Md_init_186 : decode b_Md_init 186 = .ok (.aload_n 0, 1) := by decide +kernel
theorem d_Md_init_187 : decode b_Md_init 187 = .ok (.bipush 20, 2) := by decide +kernel
theorem d_Md_init_189 : decode b_Md_init 189 = .ok (.newarray .int, 2) := by decide +kernel
theorem d_Md_init_191 : decode b_Md_init 191 = .ok (.putfield 82, 3) := by decide +kernel
theorem d_Md_init_194 : decode b_Md_init 194 = .ok (.aload_n 0, 1) := by decide +kernel
theorem d_Md_init_195 : decode b_Md_init 195 = .ok (.bipush 125, 2) := by decide +kernel
theorem d_Md_init_197 : decode b_Md_init 197 = .ok (.newarray .int, 2) := by decide +kernel
theorem d_Md_init_199 : decode b_Md_init 199 = .ok (.putfield 85, 3) := by decide +kernel
theorem d_Md_init_202 : decode b_Md_init 202 = .ok (.aload_n 0, 1) := by decide +kernel
theorem d_Md_init_203 : decode b_Md_init 203 = .ok (.bipush 125, 2) := by decide +kernel
theorem d_Md_init_205 : decode b_Md_init 205 = .ok (.newarray .int, 2) := by decide +kernel
theorem d_Md_init_207 : decode b_Md_init 207 = .ok (.putfield 88, 3) := by decide +kernel
theorem d_Md_init_210 : decode b_Md_init 210 = .ok (.aload_n 0, 1) := by decide +kernel
theorem d_Md_init_211 : decode b_Md_init 211 = .ok (.bipush 36, 2) := by decide +kernel
theorem d_Md_init_213 : decode b_Md_init 213 = .ok (.newarray .int, 2) := by decide +kernel
theorem d_Md_init_215 : decode b_Md_init 215 = .ok (.putfield 91, 3) := by decide +kernel
theorem d_Md_init_218 : decode b_Md_init 218 = .ok (.aload_n 0, 1) := by decide +kernel
theorem d_Md_init_219 : decode b_Md_init 219 = .ok (.bipush 6, 2) := by decide +kernel
theorem d_Md_init_221 : decode b_Md_init 221 = .ok (.newarray .int, 2) := by decide +kernel
theorem d_Md_init_223 : decode b_Md_init 223 = .ok (.putfield 94, 3) := by decide +kernel
theorem d_Md_init_226 : decode b_Md_init 226 = .ok (.aload_n 0, 1) := by decide +kernel
theorem d_Md_init_227 : decode b_Md_init 227 = .ok (.bipush 6, 2) := by decide +kernel
theorem d_Md_init_229 : decode b_Md_init 229 = .ok (.newarray .int, 2) := by decide +kernel
theorem d_Md_init_231 : decode b_Md_init 231 = .ok (.putfield 97, 3) := by decide +kernel
theorem d_Md_init_234 : decode b_Md_init 234 = .ok (.aload_n 0, 1) := by decide +kernel
theorem d_Md_init_235 : decode b_Md_init 235 = .ok (.bipush 6, 2) := by decide +kernel
theorem d_Md_init_237 : decode b_Md_init 237 = .ok (.newarray .int, 2) := by decide +kernel
theorem d_Md_init_239 : decode b_Md_init 239 = .ok (.putfield 100, 3) := by decide +kernel
theorem d_Md_init_242 : decode b_Md_init 242 = .ok (.aload_n 0, 1) := by decide +kernel
theorem d_Md_init_243 : decode b_Md_init 243 = .ok (.bipush 6, 2) := by decide +kernel
theorem d_Md_init_245 : decode b_Md_init 245 = .ok (.newarray .int, 2) := by decide +kernel
theorem d_Md_init_247 : decode b_Md_init 247 = .ok (.putfield 103, 3) := by decide +kernel
theorem d_Md_init_250 : decode b_Md_init 250 = .ok (.aload_n 0, 1) := by decide +kernel
theorem d_Md_init_251 : decode b_Md_init 251 = .ok (.bipush 6, 2) := by decide +kernel
theorem d_Md_init_253 : decode b_Md_init 253 = .ok (.newarray .int, 2) := by decide +kernel
theorem d_Md_init_255 : decode b_Md_init 255 = .ok (.putfield 106, 3) := by decide +kernel
theorem d_Md_init_258 : decode b_Md_init 258 = .ok (.aload_n 0, 1) := by decide +kernel
theorem d_Md_init_259 : decode b_Md_init 259 = .ok (.sipush 360, 3) := by decide +kernel
theorem d_Md_init_262 : decode b_Md_init 262 = .ok (.newarray .long, 2) := by decide +kernel
theorem d_Md_init_264 : decode b_Md_init 264 = .ok (.putfield 109, 3) := by decide +kernel
theorem d_Md_init_267 : decode b_Md_init 267 = .ok (.aload_n 0, 1) := by decide +kernel
theorem d_Md_init_268 : decode b_Md_init 268 = .ok (.iconst (-1), 1) := by decide +kernel
theorem d_Md_init_269 : decode b_Md_init 269 = .ok (.putfield 113, 3) := by decide +kernel
theorem d_Md_init_272 : decode b_Md_init 272 = .ok (.iconst 0, 1) := by decide +kernel
theorem d_Md_init_273 : decode b_Md_init 273 = .ok (.istore_n 1, 1) := by decide +kernel
theorem d_Md_init_274 : decode b_Md_init 274 = .ok (.iload_n 1, 1) := by decide +kernel
theorem d_Md_init_275 : decode b_Md_init 275 = .ok (.bipush 6, 2) := by decide +kernel
theorem d_Md_init_277 : decode b_Md_init 277 = .ok (.if_icmp .ge 16, 3) := by decide +kernel
theorem d_Md_init_280 : decode b_Md_init 280 = .ok (.aload_n 0, 1) := by decide +kernel
theorem d_Md_init_281 : decode b_Md_init 281 = .ok (.getfield 103, 3) := by decide +kernel
theorem d_Md_init_284 : decode b_Md_init 284 = .ok (.iload_n 1, 1) := by decide +kernel
theorem d_Md_init_285 : decode b_Md_init 285 = .ok (.iconst (-1), 1) := by decide +kernel
theorem d_Md_init_286 : decode b_Md_init 286 = .ok (.iastore, 1) := by decide +kernel
theorem d_Md_init_287 : decode b_Md_init 287 = .ok (.iinc 1 1, 3) := by decide +kernel
theorem d_Md_init_290 : decode b_Md_init 290 = .ok (.goto (-16), 3) := by decide +kernel
theorem d_Md_init_293 : decode b_Md_init 293 = .ok (.return_, 1) := by decide +kernel
theorem d_Md_within_0 : decode b_Md_within 0 = .ok (.iload_n 0, 1) := by decide +kernel
theorem d_Md_within_1 : decode b_Md_within 1 = .ok (.iload_n 1, 1) := by decide +kernel
theorem d_Md_within_2 : decode b_Md_within 2 = .ok (.if_icmp .lt 12, 3) := by decide +kernel
theorem d_Md_within_5 : decode b_Md_within 5 = .ok (.iload_n 0, 1) := by decide +kernel
theorem d_Md_within_6 : decode b_Md_within 6 = .ok (.iload_n 2, 1) := by decide +kernel
theorem d_Md_within_7 : decode b_Md_within 7 = .ok (.if_icmp .gt 7, 3) := by decide +kernel
theorem d_Md_within_10 : decode b_Md_within 10 = .ok (.iconst 1, 1) := by decide +kernel
theorem d_Md_within_11 : decode b_Md_within 11 = .ok (.goto 4, 3) := by decide +kernel
theorem d_Md_within_14 : decode b_Md_within 14 = .ok (.iconst 0, 1) := by decide +kernel
theorem d_Md_within_15 : decode b_Md_within 15 = .ok (.ireturn, 1) := by decide +kernel
theorem d_Md_isOne_0 : decode b_Md_isOne 0 = .ok (.iload_n 1, 1) := by decide +kernel
theorem d_Md_isOne_1 : decode b_Md_isOne 1 = .ok (.iconst 0, 1) := by decide +kernel
theorem d_Md_isOne_2 : decode b_Md_isOne 2 = .ok (.aload_n 0, 1) := by decide +kernel
theorem d_Md_isOne_3 : decode b_Md_isOne 3 = .ok (.getfield 117, 3) := by decide +kernel
theorem d_Md_isOne_6 : decode b_Md_isOne 6 = .ok (.iconst 1, 1) := by decide +kernel
theorem d_Md_isOne_7 : decode b_Md_isOne 7 = .ok (.isub, 1) := by decide +kernel
theorem d_Md_isOne_8 : decode b_Md_isOne 8 = .ok (.invokestatic 120, 3) := by decide +kernel
theorem d_Md_isOne_11 : decode b_Md_isOne 11 = .ok (.ireturn, 1) := by decide +kernel
theorem d_Md_mourner_0 : decode b_Md_mourner 0 = .ok (.iload_n 1, 1) := by decide +kernel
theorem d_Md_mourner_1 : decode b_Md_mourner 1 = .ok (.iconst 0, 1) := by decide +kernel
theorem d_Md_mourner_2 : decode b_Md_mourner 2 = .ok (.bipush 6, 2) := by decide +kernel
theorem d_Md_mourner_4 : decode b_Md_mourner 4 = .ok (.invokestatic 120, 3) := by decide +kernel
theorem d_Md_mourner_7 : decode b_Md_mourner 7 = .ok (.ifCond .ne 5, 3) := by decide +kernel
theorem d_Md_mourner_10 : decode b_Md_mourner 10 = .ok (.iconst (-1), 1) := by decide +kernel
theorem d_Md_mourner_11 : decode b_Md_mourner 11 = .ok (.ireturn, 1) := by decide +kernel
theorem d_Md_mourner_12 : decode b_Md_mourner 12 = .ok (.iload_n 2, 1) := by decide +kernel
theorem d_Md_mourner_13 : decode b_Md_mourner 13 = .ok (.iconst 0, 1) := by decide +kernel
theorem d_Md_mourner_14 : decode b_Md_mourner 14 = .ok (.bipush 9, 2) := by decide +kernel
theorem d_Md_mourner_16 : decode b_Md_mourner 16 = .ok (.invokestatic 120, 3) := by decide +kernel
theorem d_Md_mourner_19 : decode b_Md_mourner 19 = .ok (.ifCond .eq 13, 3) := by decide +kernel
theorem d_Md_mourner_22 : decode b_Md_mourner 22 = .ok (.iload_n 3, 1) := by decide +kernel
theorem d_Md_mourner_23 : decode b_Md_mourner 23 = .ok (.iconst 0, 1) := by decide +kernel
theorem d_Md_mourner_24 : decode b_Md_mourner 24 = .ok (.bipush 99, 2) := by decide +kernel
theorem d_Md_mourner_26 : decode b_Md_mourner 26 = .ok (.invokestatic 120, 3) := by decide +kernel
theorem d_Md_mourner_29 : decode b_Md_mourner 29 = .ok (.ifCond .ne 6, 3) := by decide +kernel
theorem d_Md_mourner_32 : decode b_Md_mourner 32 = .ok (.bipush (-2), 2) := by decide +kernel
theorem d_Md_mourner_34 : decode b_Md_mourner 34 = .ok (.ireturn, 1) := by decide +kernel
theorem d_Md_mourner_35 : decode b_Md_mourner 35 = .ok (.aload_n 0, 1) := by decide +kernel
theorem d_Md_mourner_36 : decode b_Md_mourner 36 = .ok (.getfield 117, 3) := by decide +kernel
theorem d_Md_mourner_39 : decode b_Md_mourner 39 = .ok (.bipush 6, 2) := by decide +kernel
theorem d_Md_mourner_41 : decode b_Md_mourner 41 = .ok (.if_icmp .ne 6, 3) := by decide +kernel
theorem d_Md_mourner_44 : decode b_Md_mourner 44 = .ok (.bipush (-4), 2) := by decide +kernel
theorem d_Md_mourner_46 : decode b_Md_mourner 46 = .ok (.ireturn, 1) := by decide +kernel
theorem d_Md_mourner_47 : decode b_Md_mourner 47 = .ok (.aload_n 0, 1) := by decide +kernel
theorem d_Md_mourner_48 : decode b_Md_mourner 48 = .ok (.getfield 9, 3) := by decide +kernel
theorem d_Md_mourner_51 : decode b_Md_mourner 51 = .ok (.aload_n 0, 1) := by decide +kernel
theorem d_Md_mourner_52 : decode b_Md_mourner 52 = .ok (.getfield 117, 3) := by decide +kernel
theorem d_Md_mourner_55 : decode b_Md_mourner 55 = .ok (.iload_n 1, 1) := by decide +kernel
theorem d_Md_mourner_56 : decode b_Md_mourner 56 = .ok (.iastore, 1) := by decide +kernel
theorem d_Md_mourner_57 : decode b_Md_mourner 57 = .ok (.aload_n 0, 1) := by decide +kernel
theorem d_Md_mourner_58 : decode b_Md_mourner 58 = .ok (.getfield 15, 3) := by decide +kernel
theorem d_Md_mourner_61 : decode b_Md_mourner 61 = .ok (.aload_n 0, 1) := by decide +kernel
theorem d_Md_mourner_62 : decode b_Md_mourner 62 = .ok (.getfield 117, 3) := by decide +kernel
theorem d_Md_mourner_65 : decode b_Md_mourner 65 = .ok (.iload_n 2, 1) := by decide +kernel
theorem d_Md_mourner_66 : decode b_Md_mourner 66 = .ok (.iastore, 1) := by decide +kernel
theorem d_Md_mourner_67 : decode b_Md_mourner 67 = .ok (.aload_n 0, 1) := by decide +kernel
theorem d_Md_mourner_68 : decode b_Md_mourner 68 = .ok (.getfield 18, 3) := by decide +kernel
theorem d_Md_mourner_71 : decode b_Md_mourner 71 = .ok (.aload_n 0, 1) := by decide +kernel
theorem d_Md_mourner_72 : decode b_Md_mourner 72 = .ok (.getfield 117, 3) := by decide +kernel
theorem d_Md_mourner_75 : decode b_Md_mourner 75 = .ok (.iload_n 3, 1) := by decide +kernel
theorem d_Md_mourner_76 : decode b_Md_mourner 76 = .ok (.iastore, 1) := by decide +kernel
theorem d_Md_mourner_77 : decode b_Md_mourner 77 = .ok (.aload_n 0, 1) := by decide +kernel
theorem d_Md_mourner_78 : decode b_Md_mourner 78 = .ok (.getfield 21, 3) := by decide +kernel
theorem d_Md_mourner_81 : decode b_Md_mourner 81 = .ok (.aload_n 0, 1) := by decide +kernel
theorem d_Md_mourner_82 : decode b_Md_mourner 82 = .ok (.getfield 117, 3) := by decide +kernel
theorem d_Md_mourner_85 : decode b_Md_mourner 85 = .ok (.iconst 0, 1) := by decide +kernel
theorem d_Md_mourner_86 : decode b_Md_mourner 86 = .ok (.iastore, 1) := by decide +kernel
theorem d_Md_mourner_87 : decode b_Md_mourner 87 = .ok (.aload_n 0, 1) := by decide +kernel
theorem d_Md_mourner_88 : decode b_Md_mourner 88 = .ok (.getfield 24, 3) := by decide +kernel
theorem d_Md_mourner_91 : decode b_Md_mourner 91 = .ok (.aload_n 0, 1) := by decide +kernel
theorem d_Md_mourner_92 : decode b_Md_mourner 92 = .ok (.getfield 117, 3) := by decide +kernel
theorem d_Md_mourner_95 : decode b_Md_mourner 95 = .ok (.iconst 0, 1) := by decide +kernel
theorem d_Md_mourner_96 : decode b_Md_mourner 96 = .ok (.iastore, 1) := by decide +kernel
theorem d_Md_mourner_97 : decode b_Md_mourner 97 = .ok (.aload_n 0, 1) := by decide +kernel
theorem d_Md_mourner_98 : decode b_Md_mourner 98 = .ok (.getfield 27, 3) := by decide +kernel
theorem d_Md_mourner_101 : decode b_Md_mourner 101 = .ok (.aload_n 0, 1) := by decide +kernel
theorem d_Md_mourner_102 : decode b_Md_mourner 102 = .ok (.getfield 117, 3) := by decide +kernel
theorem d_Md_mourner_105 : decode b_Md_mourner 105 = .ok (.iconst 0, 1) := by decide +kernel
theorem d_Md_mourner_106 : decode b_Md_mourner 106 = .ok (.iastore, 1) := by decide +kernel
theorem d_Md_mourner_107 : decode b_Md_mourner 107 = .ok (.iconst 0, 1) := by decide +kernel
theorem d_Md_mourner_108 : decode b_Md_mourner 108 = .ok (.istore 4, 2) := by decide +kernel
theorem d_Md_mourner_110 : decode b_Md_mourner 110 = .ok (.iload 4, 2) := by decide +kernel
theorem d_Md_mourner_112 : decode b_Md_mourner 112 = .ok (.iconst 4, 1) := by decide +kernel
theorem d_Md_mourner_113 : decode b_Md_mourner 113 = .ok (.if_icmp .ge 24, 3) := by decide +kernel
theorem d_Md_mourner_116 : decode b_Md_mourner 116 = .ok (.aload_n 0, 1) := by decide +kernel
theorem d_Md_mourner_117 : decode b_Md_mourner 117 = .ok (.getfield 30, 3) := by decide +kernel
theorem d_Md_mourner_120 : decode b_Md_mourner 120 = .ok (.iconst 4, 1) := by decide +kernel
theorem d_Md_mourner_121 : decode b_Md_mourner 121 = .ok (.aload_n 0, 1) := by decide +kernel
theorem d_Md_mourner_122 : decode b_Md_mourner 122 = .ok (.getfield 117, 3) := by decide +kernel
theorem d_Md_mourner_125 : decode b_Md_mourner 125 = .ok (.imul, 1) := by decide +kernel
theorem d_Md_mourner_126 : decode b_Md_mourner 126 = .ok (.iload 4, 2) := by decide +kernel
theorem d_Md_mourner_128 : decode b_Md_mourner 128 = .ok (.iadd, 1) := by decide +kernel
theorem d_Md_mourner_129 : decode b_Md_mourner 129 = .ok (.iconst 0, 1) := by decide +kernel
theorem d_Md_mourner_130 : decode b_Md_mourner 130 = .ok (.iastore, 1) := by decide +kernel
theorem d_Md_mourner_131 : decode b_Md_mourner 131 = .ok (.iinc 4 1, 3) := by decide +kernel
theorem d_Md_mourner_134 : decode b_Md_mourner 134 = .ok (.goto (-24), 3) := by decide +kernel
theorem d_Md_mourner_137 : decode b_Md_mourner 137 = .ok (.aload_n 0, 1) := by decide +kernel
theorem d_Md_mourner_138 : decode b_Md_mourner 138 = .ok (.dup, 1) := by decide +kernel
theorem d_Md_mourner_139 : decode b_Md_mourner 139 = .ok (.getfield 117, 3) := by decide +kernel
theorem d_Md_mourner_142 : decode b_Md_mourner 142 = .ok (.dup_x1, 1) := by decide +kernel
theorem d_Md_mourner_143 : decode b_Md_mourner 143 = .ok (.iconst 1, 1) := by decide +kernel
theorem d_Md_mourner_144 : decode b_Md_mourner 144 = .ok (.iadd, 1) := by decide +kernel
theorem d_Md_mourner_145 : decode b_Md_mourner 145 = .ok (.putfield 117, 3) := by decide +kernel
theorem d_Md_mourner_148 : decode b_Md_mourner 148 = .ok (.ireturn, 1) := by decide +kernel
theorem d_Md_placeOf_0 : decode b_Md_placeOf 0 = .ok (.iconst 0, 1) := by decide +kernel
theorem d_Md_placeOf_1 : decode b_Md_placeOf 1 = .ok (.istore_n 2, 1) := by decide +kernel
theorem d_Md_placeOf_2 : decode b_Md_placeOf 2 = .ok (.iload_n 2, 1) := by decide +kernel
theorem d_Md_placeOf_3 : decode b_Md_placeOf 3 = .ok (.aload_n 0, 1) := by decide +kernel
theorem d_Md_placeOf_4 : decode b_Md_placeOf 4 = .ok (.getfield 124, 3) := by decide +kernel
theorem d_Md_placeOf_7 : decode b_Md_placeOf 7 = .ok (.if_icmp .ge 21, 3) := by decide +kernel
theorem d_Md_placeOf_10 : decode b_Md_placeOf 10 = .ok (.aload_n 0, 1) := by decide +kernel
theorem d_Md_placeOf_11 : decode b_Md_placeOf 11 = .ok (.getfield 33, 3) := by decide +kernel
theorem d_Md_placeOf_14 : decode b_Md_placeOf 14 = .ok (.iload_n 2, 1) := by decide +kernel
theorem d_Md_placeOf_15 : decode b_Md_placeOf 15 = .ok (.iaload, 1) := by decide +kernel
theorem d_Md_placeOf_16 : decode b_Md_placeOf 16 = .ok (.iload_n 1, 1) := by decide +kernel
theorem d_Md_placeOf_17 : decode b_Md_placeOf 17 = .ok (.if_icmp .ne 5, 3) := by decide +kernel
theorem d_Md_placeOf_20 : decode b_Md_placeOf 20 = .ok (.iload_n 2, 1) := by decide +kernel
theorem d_Md_placeOf_21 : decode b_Md_placeOf 21 = .ok (.ireturn, 1) := by decide +kernel
theorem d_Md_placeOf_22 : decode b_Md_placeOf 22 = .ok (.iinc 2 1, 3) := by decide +kernel
theorem d_Md_placeOf_25 : decode b_Md_placeOf 25 = .ok (.goto (-23), 3) := by decide +kernel
theorem d_Md_placeOf_28 : decode b_Md_placeOf 28 = .ok (.bipush (-5), 2) := by decide +kernel
theorem d_Md_placeOf_30 : decode b_Md_placeOf 30 = .ok (.ireturn, 1) := by decide +kernel
theorem d_Md_of_0 : decode b_Md_of 0 = .ok (.aload_n 0, 1) := by decide +kernel
theorem d_Md_of_1 : decode b_Md_of 1 = .ok (.iload_n 1, 1) := by decide +kernel
theorem d_Md_of_2 : decode b_Md_of 2 = .ok (.invokevirtual 127, 3) := by decide +kernel
theorem d_Md_of_5 : decode b_Md_of 5 = .ok (.ifCond .ne 5, 3) := by decide +kernel
theorem d_Md_of_8 : decode b_Md_of 8 = .ok (.iconst (-1), 1) := by decide +kernel
theorem d_Md_of_9 : decode b_Md_of 9 = .ok (.ireturn, 1) := by decide +kernel
theorem d_Md_of_10 : decode b_Md_of 10 = .ok (.iload_n 2, 1) := by decide +kernel
theorem d_Md_of_11 : decode b_Md_of 11 = .ok (.tableswitch 109 0 7 #[45, 52, 59, 66, 73, 80, 87, 93], 45) := by decide +kernel
theorem d_Md_of_56 : decode b_Md_of 56 = .ok (.aload_n 0, 1) := by decide +kernel
theorem d_Md_of_57 : decode b_Md_of 57 = .ok (.getfield 9, 3) := by decide +kernel
theorem d_Md_of_60 : decode b_Md_of 60 = .ok (.iload_n 1, 1) := by decide +kernel
theorem d_Md_of_61 : decode b_Md_of 61 = .ok (.iaload, 1) := by decide +kernel
theorem d_Md_of_62 : decode b_Md_of 62 = .ok (.ireturn, 1) := by decide +kernel
theorem d_Md_of_63 : decode b_Md_of 63 = .ok (.aload_n 0, 1) := by decide +kernel
theorem d_Md_of_64 : decode b_Md_of 64 = .ok (.getfield 15, 3) := by decide +kernel
theorem d_Md_of_67 : decode b_Md_of 67 = .ok (.iload_n 1, 1) := by decide +kernel
theorem d_Md_of_68 : decode b_Md_of 68 = .ok (.iaload, 1) := by decide +kernel
theorem d_Md_of_69 : decode b_Md_of 69 = .ok (.ireturn, 1) := by decide +kernel
theorem d_Md_of_70 : decode b_Md_of 70 = .ok (.aload_n 0, 1) := by decide +kernel
theorem d_Md_of_71 : decode b_Md_of 71 = .ok (.getfield 18, 3) := by decide +kernel
theorem d_Md_of_74 : decode b_Md_of 74 = .ok (.iload_n 1, 1) := by decide +kernel
theorem d_Md_of_75 : decode b_Md_of 75 = .ok (.iaload, 1) := by decide +kernel
theorem d_Md_of_76 : decode b_Md_of 76 = .ok (.ireturn, 1) := by decide +kernel
theorem d_Md_of_77 : decode b_Md_of 77 = .ok (.aload_n 0, 1) := by decide +kernel
theorem d_Md_of_78 : decode b_Md_of 78 = .ok (.getfield 21, 3) := by decide +kernel
theorem d_Md_of_81 : decode b_Md_of 81 = .ok (.iload_n 1, 1) := by decide +kernel
theorem d_Md_of_82 : decode b_Md_of 82 = .ok (.iaload, 1) := by decide +kernel
theorem d_Md_of_83 : decode b_Md_of 83 = .ok (.ireturn, 1) := by decide +kernel
theorem d_Md_of_84 : decode b_Md_of 84 = .ok (.aload_n 0, 1) := by decide +kernel
theorem d_Md_of_85 : decode b_Md_of 85 = .ok (.getfield 24, 3) := by decide +kernel
theorem d_Md_of_88 : decode b_Md_of 88 = .ok (.iload_n 1, 1) := by decide +kernel
theorem d_Md_of_89 : decode b_Md_of 89 = .ok (.iaload, 1) := by decide +kernel
theorem d_Md_of_90 : decode b_Md_of 90 = .ok (.ireturn, 1) := by decide +kernel
theorem d_Md_of_91 : decode b_Md_of 91 = .ok (.aload_n 0, 1) := by decide +kernel
theorem d_Md_of_92 : decode b_Md_of 92 = .ok (.getfield 27, 3) := by decide +kernel
theorem d_Md_of_95 : decode b_Md_of 95 = .ok (.iload_n 1, 1) := by decide +kernel
theorem d_Md_of_96 : decode b_Md_of 96 = .ok (.iaload, 1) := by decide +kernel
theorem d_Md_of_97 : decode b_Md_of 97 = .ok (.ireturn, 1) := by decide +kernel
theorem d_Md_of_98 : decode b_Md_of 98 = .ok (.aload_n 0, 1) := by decide +kernel
theorem d_Md_of_99 : decode b_Md_of 99 = .ok (.iload_n 1, 1) := by decide +kernel
theorem d_Md_of_100 : decode b_Md_of 100 = .ok (.invokevirtual 131, 3) := by decide +kernel
theorem d_Md_of_103 : decode b_Md_of 103 = .ok (.ireturn, 1) := by decide +kernel
theorem d_Md_of_104 : decode b_Md_of 104 = .ok (.aload_n 0, 1) := by decide +kernel
theorem d_Md_of_105 : decode b_Md_of 105 = .ok (.iload_n 1, 1) := by decide +kernel
theorem d_Md_of_106 : decode b_Md_of 106 = .ok (.aload_n 0, 1) := by decide +kernel
theorem d_Md_of_107 : decode b_Md_of 107 = .ok (.getfield 135, 3) := by decide +kernel
theorem d_Md_of_110 : decode b_Md_of 110 = .ok (.aload_n 0, 1) := by decide +kernel
theorem d_Md_of_111 : decode b_Md_of 111 = .ok (.getfield 21, 3) := by decide +kernel
theorem d_Md_of_114 : decode b_Md_of 114 = .ok (.iload_n 1, 1) := by decide +kernel
theorem d_Md_of_115 : decode b_Md_of 115 = .ok (.iaload, 1) := by decide +kernel
theorem d_Md_of_116 : decode b_Md_of 116 = .ok (.invokevirtual 138, 3) := by decide +kernel
theorem d_Md_of_119 : decode b_Md_of 119 = .ok (.ireturn, 1) := by decide +kernel
theorem d_Md_of_120 : decode b_Md_of 120 = .ok (.iconst (-1), 1) := by decide +kernel
theorem d_Md_of_121 : decode b_Md_of 121 = .ok (.ireturn, 1) := by decide +kernel
theorem d_Md_set_0 : decode b_Md_set 0 = .ok (.aload_n 0, 1) := by decide +kernel
theorem d_Md_set_1 : decode b_Md_set 1 = .ok (.iload_n 1, 1) := by decide +kernel
theorem d_Md_set_2 : decode b_Md_set 2 = .ok (.invokevirtual 127, 3) := by decide +kernel
theorem d_Md_set_5 : decode b_Md_set 5 = .ok (.ifCond .eq 12, 3) := by decide +kernel
theorem d_Md_set_8 : decode b_Md_set 8 = .ok (.iload_n 2, 1) := by decide +kernel
theorem d_Md_set_9 : decode b_Md_set 9 = .ok (.iconst 0, 1) := by decide +kernel
theorem d_Md_set_10 : decode b_Md_set 10 = .ok (.iconst 2, 1) := by decide +kernel
theorem d_Md_set_11 : decode b_Md_set 11 = .ok (.invokestatic 120, 3) := by decide +kernel
theorem d_Md_set_14 : decode b_Md_set 14 = .ok (.ifCond .ne 5, 3) := by decide +kernel
theorem d_Md_set_17 : decode b_Md_set 17 = .ok (.iconst (-1), 1) := by decide +kernel
theorem d_Md_set_18 : decode b_Md_set 18 = .ok (.ireturn, 1) := by decide +kernel
theorem d_Md_set_19 : decode b_Md_set 19 = .ok (.iload_n 3, 1) := by decide +kernel
theorem d_Md_set_20 : decode b_Md_set 20 = .ok (.iconst 0, 1) := by decide +kernel
theorem d_Md_set_21 : decode b_Md_set 21 = .ok (.iload_n 2, 1) := by decide +kernel
theorem d_Md_set_22 : decode b_Md_set 22 = .ok (.iconst 2, 1) := by decide +kernel
theorem d_Md_set_23 : decode b_Md_set 23 = .ok (.if_icmp .ne 8, 3) := by decide +kernel
theorem d_Md_set_26 : decode b_Md_set 26 = .ok (.ldc 142, 2) := by decide +kernel
theorem d_Md_set_28 : decode b_Md_set 28 = .ok (.goto 5, 3) := by decide +kernel
theorem d_Md_set_31 : decode b_Md_set 31 = .ok (.bipush 99, 2) := by decide +kernel
theorem d_Md_set_33 : decode b_Md_set 33 = .ok (.invokestatic 120, 3) := by decide +kernel
theorem d_Md_set_36 : decode b_Md_set 36 = .ok (.ifCond .ne 6, 3) := by decide +kernel
theorem d_Md_set_39 : decode b_Md_set 39 = .ok (.bipush (-2), 2) := by decide +kernel
theorem d_Md_set_41 : decode b_Md_set 41 = .ok (.ireturn, 1) := by decide +kernel
theorem d_Md_set_42 : decode b_Md_set 42 = .ok (.iload_n 2, 1) := by decide +kernel
theorem d_Md_set_43 : decode b_Md_set 43 = .ok (.ifCond .ne 12, 3) := by decide +kernel
theorem d_Md_set_46 : decode b_Md_set 46 = .ok (.aload_n 0, 1) := by decide +kernel
theorem d_Md_set_47 : decode b_Md_set 47 = .ok (.getfield 18, 3) := by decide +kernel
theorem d_Md_set_50 : decode b_Md_set 50 = .ok (.iload_n 1, 1) := by decide +kernel
theorem d_Md_set_51 : decode b_Md_set 51 = .ok (.iaload, 1) := by decide +kernel
theorem d_Md_set_52 : decode b_Md_set 52 = .ok (.goto 23, 3) := by decide +kernel
theorem d_Md_set_55 : decode b_Md_set 55 = .ok (.iload_n 2, 1) := by decide +kernel
theorem d_Md_set_56 : decode b_Md_set 56 = .ok (.iconst 1, 1) := by decide +kernel
theorem d_Md_set_57 : decode b_Md_set 57 = .ok (.if_icmp .ne 12, 3) := by decide +kernel
theorem d_Md_set_60 : decode b_Md_set 60 = .ok (.aload_n 0, 1) := by decide +kernel
theorem d_Md_set_61 : decode b_Md_set 61 = .ok (.getfield 21, 3) := by decide +kernel
theorem d_Md_set_64 : decode b_Md_set 64 = .ok (.iload_n 1, 1) := by decide +kernel
theorem d_Md_set_65 : decode b_Md_set 65 = .ok (.iaload, 1) := by decide +kernel
theorem d_Md_set_66 : decode b_Md_set 66 = .ok (.goto 9, 3) := by decide +kernel
theorem d_Md_set_69 : decode b_Md_set 69 = .ok (.aload_n 0, 1) := by decide +kernel
theorem d_Md_set_70 : decode b_Md_set 70 = .ok (.getfield 24, 3) := by decide +kernel
theorem d_Md_set_73 : decode b_Md_set 73 = .ok (.iload_n 1, 1) := by decide +kernel
theorem d_Md_set_74 : decode b_Md_set 74 = .ok (.iaload, 1) := by decide +kernel
theorem d_Md_set_75 : decode b_Md_set 75 = .ok (.istore 4, 2) := by decide +kernel
theorem d_Md_set_77 : decode b_Md_set 77 = .ok (.iload_n 2, 1) := by decide +kernel
theorem d_Md_set_78 : decode b_Md_set 78 = .ok (.ifCond .ne 13, 3) := by decide +kernel
theorem d_Md_set_81 : decode b_Md_set 81 = .ok (.aload_n 0, 1) := by decide +kernel
theorem d_Md_set_82 : decode b_Md_set 82 = .ok (.getfield 18, 3) := by decide +kernel
theorem d_Md_set_85 : decode b_Md_set 85 = .ok (.iload_n 1, 1) := by decide +kernel
theorem d_Md_set_86 : decode b_Md_set 86 = .ok (.iload_n 3, 1) := by decide +kernel
theorem d_Md_set_87 : decode b_Md_set 87 = .ok (.iastore, 1) := by decide +kernel
theorem d_Md_set_88 : decode b_Md_set 88 = .ok (.goto 25, 3) := by decide +kernel
theorem d_Md_set_91 : decode b_Md_set 91 = .ok (.iload_n 2, 1) := by decide +kernel
theorem d_Md_set_92 : decode b_Md_set 92 = .ok (.iconst 1, 1) := by decide +kernel
theorem d_Md_set_93 : decode b_Md_set 93 = .ok (.if_icmp .ne 13, 3) := by decide +kernel
theorem d_Md_set_96 : decode b_Md_set 96 = .ok (.aload_n 0, 1) := by decide +kernel
theorem d_Md_set_97 : decode b_Md_set 97 = .ok (.getfield 21, 3) := by decide +kernel
theorem d_Md_set_100 : decode b_Md_set 100 = .ok (.iload_n 1, 1) := by decide +kernel
theorem d_Md_set_101 : decode b_Md_set 101 = .ok (.iload_n 3, 1) := by decide +kernel
theorem d_Md_set_102 : decode b_Md_set 102 = .ok (.iastore, 1) := by decide +kernel
theorem d_Md_set_103 : decode b_Md_set 103 = .ok (.goto 10, 3) := by decide +kernel
theorem d_Md_set_106 : decode b_Md_set 106 = .ok (.aload_n 0, 1) := by decide +kernel
theorem d_Md_set_107 : decode b_Md_set 107 = .ok (.getfield 24, 3) := by decide +kernel
theorem d_Md_set_110 : decode b_Md_set 110 = .ok (.iload_n 1, 1) := by decide +kernel
theorem d_Md_set_111 : decode b_Md_set 111 = .ok (.iload_n 3, 1) := by decide +kernel
theorem d_Md_set_112 : decode b_Md_set 112 = .ok (.iastore, 1) := by decide +kernel
theorem d_Md_set_113 : decode b_Md_set 113 = .ok (.iload 4, 2) := by decide +kernel
theorem d_Md_set_115 : decode b_Md_set 115 = .ok (.ireturn, 1) := by decide +kernel
theorem d_Md_done_0 : decode b_Md_done 0 = .ok (.aload_n 0, 1) := by decide +kernel
theorem d_Md_done_1 : decode b_Md_done 1 = .ok (.iload_n 1, 1) := by decide +kernel
theorem d_Md_done_2 : decode b_Md_done 2 = .ok (.invokevirtual 127, 3) := by decide +kernel
theorem d_Md_done_5 : decode b_Md_done 5 = .ok (.ifCond .ne 5, 3) := by decide +kernel
theorem d_Md_done_8 : decode b_Md_done 8 = .ok (.iconst (-1), 1) := by decide +kernel
theorem d_Md_done_9 : decode b_Md_done 9 = .ok (.ireturn, 1) := by decide +kernel
theorem d_Md_done_10 : decode b_Md_done 10 = .ok (.aload_n 0, 1) := by decide +kernel
theorem d_Md_done_11 : decode b_Md_done 11 = .ok (.getfield 27, 3) := by decide +kernel
theorem d_Md_done_14 : decode b_Md_done 14 = .ok (.iload_n 1, 1) := by decide +kernel
theorem d_Md_done_15 : decode b_Md_done 15 = .ok (.iaload, 1) := by decide +kernel
theorem d_Md_done_16 : decode b_Md_done 16 = .ok (.istore_n 3, 1) := by decide +kernel
theorem d_Md_done_17 : decode b_Md_done 17 = .ok (.aload_n 0, 1) := by decide +kernel
theorem d_Md_done_18 : decode b_Md_done 18 = .ok (.getfield 27, 3) := by decide +kernel
theorem d_Md_done_21 : decode b_Md_done 21 = .ok (.iload_n 1, 1) := by decide +kernel
theorem d_Md_done_22 : decode b_Md_done 22 = .ok (.iload_n 2, 1) := by decide +kernel
theorem d_Md_done_23 : decode b_Md_done 23 = .ok (.ifCond .eq 7, 3) := by decide +kernel
theorem d_Md_done_26 : decode b_Md_done 26 = .ok (.iconst 1, 1) := by decide +kernel
theorem d_Md_done_27 : decode b_Md_done 27 = .ok (.goto 4, 3) := by decide +kernel
theorem d_Md_done_30 : decode b_Md_done 30 = .ok (.iconst 0, 1) := by decide +kernel
theorem d_Md_done_31 : decode b_Md_done 31 = .ok (.iastore, 1) := by decide +kernel
theorem d_Md_done_32 : decode b_Md_done 32 = .ok (.iload_n 3, 1) := by decide +kernel
theorem d_Md_done_33 : decode b_Md_done 33 = .ok (.ireturn, 1) := by decide +kernel
theorem d_Md_list_0 : decode b_Md_list 0 = .ok (.iload_n 1, 1) := by decide +kernel
theorem d_Md_list_1 : decode b_Md_list 1 = .ok (.iconst (-1), 1) := by decide +kernel
theorem d_Md_list_2 : decode b_Md_list 2 = .ok (.if_icmp .ne 10, 3) := by decide +kernel
theorem d_Md_list_5 : decode b_Md_list 5 = .ok (.aload_n 0, 1) := by decide +kernel
theorem d_Md_list_6 : decode b_Md_list 6 = .ok (.iconst 0, 1) := by decide +kernel
theorem d_Md_list_7 : decode b_Md_list 7 = .ok (.putfield 124, 3) := by decide +kernel
theorem d_Md_list_10 : decode b_Md_list 10 = .ok (.iconst 0, 1) := by decide +kernel
theorem d_Md_list_11 : decode b_Md_list 11 = .ok (.ireturn, 1) := by decide +kernel
theorem d_Md_list_12 : decode b_Md_list 12 = .ok (.aload_n 0, 1) := by decide +kernel
theorem d_Md_list_13 : decode b_Md_list 13 = .ok (.iload_n 1, 1) := by decide +kernel
theorem d_Md_list_14 : decode b_Md_list 14 = .ok (.invokevirtual 127, 3) := by decide +kernel
theorem d_Md_list_17 : decode b_Md_list 17 = .ok (.ifCond .ne 5, 3) := by decide +kernel
theorem d_Md_list_20 : decode b_Md_list 20 = .ok (.iconst (-1), 1) := by decide +kernel
theorem d_Md_list_21 : decode b_Md_list 21 = .ok (.ireturn, 1) := by decide +kernel
theorem d_Md_list_22 : decode b_Md_list 22 = .ok (.aload_n 0, 1) := by decide +kernel
theorem d_Md_list_23 : decode b_Md_list 23 = .ok (.iload_n 1, 1) := by decide +kernel
theorem d_Md_list_24 : decode b_Md_list 24 = .ok (.invokevirtual 131, 3) := by decide +kernel
theorem d_Md_list_27 : decode b_Md_list 27 = .ok (.bipush (-5), 2) := by decide +kernel
theorem d_Md_list_29 : decode b_Md_list 29 = .ok (.if_icmp .eq 6, 3) := by decide +kernel
theorem d_Md_list_32 : decode b_Md_list 32 = .ok (.bipush (-3), 2) := by decide +kernel
theorem d_Md_list_34 : decode b_Md_list 34 = .ok (.ireturn, 1) := by decide +kernel
theorem d_Md_list_35 : decode b_Md_list 35 = .ok (.aload_n 0, 1) := by decide +kernel
theorem d_Md_list_36 : decode b_Md_list 36 = .ok (.getfield 33, 3) := by decide +kernel
theorem d_Md_list_39 : decode b_Md_list 39 = .ok (.aload_n 0, 1) := by decide +kernel
theorem d_Md_list_40 : decode b_Md_list 40 = .ok (.dup, 1) := by decide +kernel
theorem d_Md_list_41 : decode b_Md_list 41 = .ok (.getfield 124, 3) := by decide +kernel
theorem d_Md_list_44 : decode b_Md_list 44 = .ok (.dup_x1, 1) := by decide +kernel
theorem d_Md_list_45 : decode b_Md_list 45 = .ok (.iconst 1, 1) := by decide +kernel
theorem d_Md_list_46 : decode b_Md_list 46 = .ok (.iadd, 1) := by decide +kernel
theorem d_Md_list_47 : decode b_Md_list 47 = .ok (.putfield 124, 3) := by decide +kernel
theorem d_Md_list_50 : decode b_Md_list 50 = .ok (.iload_n 1, 1) := by decide +kernel
theorem d_Md_list_51 : decode b_Md_list 51 = .ok (.iastore, 1) := by decide +kernel
theorem d_Md_list_52 : decode b_Md_list 52 = .ok (.aload_n 0, 1) := by decide +kernel
theorem d_Md_list_53 : decode b_Md_list 53 = .ok (.getfield 124, 3) := by decide +kernel
theorem d_Md_list_56 : decode b_Md_list 56 = .ok (.ireturn, 1) := by decide +kernel
theorem d_Md_swap_0 : decode b_Md_swap 0 = .ok (.aload_n 0, 1) := by decide +kernel
theorem d_Md_swap_1 : decode b_Md_swap 1 = .ok (.iload_n 1, 1) := by decide +kernel
theorem d_Md_swap_2 : decode b_Md_swap 2 = .ok (.invokevirtual 127, 3) := by decide +kernel
theorem d_Md_swap_5 : decode b_Md_swap 5 = .ok (.ifCond .eq 11, 3) := by decide +kernel
theorem d_Md_swap_8 : decode b_Md_swap 8 = .ok (.aload_n 0, 1) := by decide +kernel
theorem d_Md_swap_9 : decode b_Md_swap 9 = .ok (.iload_n 2, 1) := by decide +kernel
theorem d_Md_swap_10 : decode b_Md_swap 10 = .ok (.invokevirtual 127, 3) := by decide +kernel
theorem d_Md_swap_13 : decode b_Md_swap 13 = .ok (.ifCond .ne 5, 3) := by decide +kernel
theorem d_Md_swap_16 : decode b_Md_swap 16 = .ok (.iconst (-1), 1) := by decide +kernel
theorem d_Md_swap_17 : decode b_Md_swap 17 = .ok (.ireturn, 1) := by decide +kernel
theorem d_Md_swap_18 : decode b_Md_swap 18 = .ok (.iload_n 1, 1) := by decide +kernel
theorem d_Md_swap_19 : decode b_Md_swap 19 = .ok (.iload_n 2, 1) := by decide +kernel
theorem d_Md_swap_20 : decode b_Md_swap 20 = .ok (.if_icmp .ne 6, 3) := by decide +kernel
theorem d_Md_swap_23 : decode b_Md_swap 23 = .ok (.bipush (-2), 2) := by decide +kernel
theorem d_Md_swap_25 : decode b_Md_swap 25 = .ok (.ireturn, 1) := by decide +kernel
theorem d_Md_swap_26 : decode b_Md_swap 26 = .ok (.aload_n 0, 1) := by decide +kernel
theorem d_Md_swap_27 : decode b_Md_swap 27 = .ok (.iload_n 1, 1) := by decide +kernel
theorem d_Md_swap_28 : decode b_Md_swap 28 = .ok (.invokevirtual 131, 3) := by decide +kernel
theorem d_Md_swap_31 : decode b_Md_swap 31 = .ok (.istore_n 3, 1) := by decide +kernel
theorem d_Md_swap_32 : decode b_Md_swap 32 = .ok (.aload_n 0, 1) := by decide +kernel
theorem d_Md_swap_33 : decode b_Md_swap 33 = .ok (.iload_n 2, 1) := by decide +kernel
theorem d_Md_swap_34 : decode b_Md_swap 34 = .ok (.invokevirtual 131, 3) := by decide +kernel
theorem d_Md_swap_37 : decode b_Md_swap 37 = .ok (.istore 4, 2) := by decide +kernel
theorem d_Md_swap_39 : decode b_Md_swap 39 = .ok (.iload_n 3, 1) := by decide +kernel
theorem d_Md_swap_40 : decode b_Md_swap 40 = .ok (.bipush (-5), 2) := by decide +kernel
theorem d_Md_swap_42 : decode b_Md_swap 42 = .ok (.if_icmp .eq 10, 3) := by decide +kernel
theorem d_Md_swap_45 : decode b_Md_swap 45 = .ok (.iload 4, 2) := by decide +kernel
theorem d_Md_swap_47 : decode b_Md_swap 47 = .ok (.bipush (-5), 2) := by decide +kernel
theorem d_Md_swap_49 : decode b_Md_swap 49 = .ok (.if_icmp .ne 6, 3) := by decide +kernel
theorem d_Md_swap_52 : decode b_Md_swap 52 = .ok (.bipush (-3), 2) := by decide +kernel
theorem d_Md_swap_54 : decode b_Md_swap 54 = .ok (.ireturn, 1) := by decide +kernel
theorem d_Md_swap_55 : decode b_Md_swap 55 = .ok (.aload_n 0, 1) := by decide +kernel
theorem d_Md_swap_56 : decode b_Md_swap 56 = .ok (.getfield 33, 3) := by decide +kernel
theorem d_Md_swap_59 : decode b_Md_swap 59 = .ok (.iload_n 3, 1) := by decide +kernel
theorem d_Md_swap_60 : decode b_Md_swap 60 = .ok (.iload_n 2, 1) := by decide +kernel
theorem d_Md_swap_61 : decode b_Md_swap 61 = .ok (.iastore, 1) := by decide +kernel
theorem d_Md_swap_62 : decode b_Md_swap 62 = .ok (.aload_n 0, 1) := by decide +kernel
theorem d_Md_swap_63 : decode b_Md_swap 63 = .ok (.getfield 33, 3) := by decide +kernel
theorem d_Md_swap_66 : decode b_Md_swap 66 = .ok (.iload 4, 2) := by decide +kernel
theorem d_Md_swap_68 : decode b_Md_swap 68 = .ok (.iload_n 1, 1) := by decide +kernel
theorem d_Md_swap_69 : decode b_Md_swap 69 = .ok (.iastore, 1) := by decide +kernel
theorem d_Md_swap_70 : decode b_Md_swap 70 = .ok (.iload 4, 2) := by decide +kernel
theorem d_Md_swap_72 : decode b_Md_swap 72 = .ok (.ireturn, 1) := by decide +kernel
theorem d_Md_row_0 : decode b_Md_row 0 = .ok (.aload_n 0, 1) := by decide +kernel
theorem d_Md_row_1 : decode b_Md_row 1 = .ok (.iload_n 1, 1) := by decide +kernel
theorem d_Md_row_2 : decode b_Md_row 2 = .ok (.invokevirtual 127, 3) := by decide +kernel
theorem d_Md_row_5 : decode b_Md_row 5 = .ok (.ifCond .eq 12, 3) := by decide +kernel
theorem d_Md_row_8 : decode b_Md_row 8 = .ok (.iload_n 2, 1) := by decide +kernel
theorem d_Md_row_9 : decode b_Md_row 9 = .ok (.iconst 0, 1) := by decide +kernel
theorem d_Md_row_10 : decode b_Md_row 10 = .ok (.iconst 3, 1) := by decide +kernel
theorem d_Md_row_11 : decode b_Md_row 11 = .ok (.invokestatic 120, 3) := by decide +kernel
theorem d_Md_row_14 : decode b_Md_row 14 = .ok (.ifCond .ne 5, 3) := by decide +kernel
theorem d_Md_row_17 : decode b_Md_row 17 = .ok (.iconst (-1), 1) := by decide +kernel
theorem d_Md_row_18 : decode b_Md_row 18 = .ok (.ireturn, 1) := by decide +kernel
theorem d_Md_row_19 : decode b_Md_row 19 = .ok (.iload_n 3, 1) := by decide +kernel
theorem d_Md_row_20 : decode b_Md_row 20 = .ok (.iconst 0, 1) := by decide +kernel
theorem d_Md_row_21 : decode b_Md_row 21 = .ok (.bipush 9, 2) := by decide +kernel
theorem d_Md_row_23 : decode b_Md_row 23 = .ok (.invokestatic 120, 3) := by decide +kernel
theorem d_Md_row_26 : decode b_Md_row 26 = .ok (.ifCond .ne 6, 3) := by decide +kernel
theorem d_Md_row_29 : decode b_Md_row 29 = .ok (.bipush (-2), 2) := by decide +kernel
theorem d_Md_row_31 : decode b_Md_row 31 = .ok (.ireturn, 1) := by decide +kernel
theorem d_Md_row_32 : decode b_Md_row 32 = .ok (.aload_n 0, 1) := by decide +kernel
theorem d_Md_row_33 : decode b_Md_row 33 = .ok (.getfield 9, 3) := by decide +kernel
theorem d_Md_row_36 : decode b_Md_row 36 = .ok (.iload_n 1, 1) := by decide +kernel
theorem d_Md_row_37 : decode b_Md_row 37 = .ok (.iaload, 1) := by decide +kernel
theorem d_Md_row_38 : decode b_Md_row 38 = .ok (.bipush 6, 2) := by decide +kernel
theorem d_Md_row_40 : decode b_Md_row 40 = .ok (.if_icmp .eq 6, 3) := by decide +kernel
theorem d_Md_row_43 : decode b_Md_row 43 = .ok (.bipush (-3), 2) := by decide +kernel
theorem d_Md_row_45 : decode b_Md_row 45 = .ok (.ireturn, 1) := by decide +kernel
theorem d_Md_row_46 : decode b_Md_row 46 = .ok (.aload_n 0, 1) := by decide +kernel
theorem d_Md_row_47 : decode b_Md_row 47 = .ok (.getfield 30, 3) := by decide +kernel
theorem d_Md_row_50 : decode b_Md_row 50 = .ok (.iconst 4, 1) := by decide +kernel
theorem d_Md_row_51 : decode b_Md_row 51 = .ok (.iload_n 1, 1) := by decide +kernel
theorem d_Md_row_52 : decode b_Md_row 52 = .ok (.imul, 1) := by decide +kernel
theorem d_Md_row_53 : decode b_Md_row 53 = .ok (.iload_n 2, 1) := by decide +kernel
theorem d_Md_row_54 : decode b_Md_row 54 = .ok (.iadd, 1) := by decide +kernel
theorem d_Md_row_55 : decode b_Md_row 55 = .ok (.iaload, 1) := by decide +kernel
theorem d_Md_row_56 : decode b_Md_row 56 = .ok (.istore 4, 2) := by decide +kernel
theorem d_Md_row_58 : decode b_Md_row 58 = .ok (.aload_n 0, 1) := by decide +kernel
theorem d_Md_row_59 : decode b_Md_row 59 = .ok (.getfield 30, 3) := by decide +kernel
theorem d_Md_row_62 : decode b_Md_row 62 = .ok (.iconst 4, 1) := by decide +kernel
theorem d_Md_row_63 : decode b_Md_row 63 = .ok (.iload_n 1, 1) := by decide +kernel
theorem d_Md_row_64 : decode b_Md_row 64 = .ok (.imul, 1) := by decide +kernel
theorem d_Md_row_65 : decode b_Md_row 65 = .ok (.iload_n 2, 1) := by decide +kernel
theorem d_Md_row_66 : decode b_Md_row 66 = .ok (.iadd, 1) := by decide +kernel
theorem d_Md_row_67 : decode b_Md_row 67 = .ok (.iload_n 3, 1) := by decide +kernel
theorem d_Md_row_68 : decode b_Md_row 68 = .ok (.iastore, 1) := by decide +kernel
theorem d_Md_row_69 : decode b_Md_row 69 = .ok (.iload 4, 2) := by decide +kernel
theorem d_Md_row_71 : decode b_Md_row 71 = .ok (.ireturn, 1) := by decide +kernel
theorem d_Md_feed_0 : decode b_Md_feed 0 = .ok (.iload_n 1, 1) := by decide +kernel
theorem d_Md_feed_1 : decode b_Md_feed 1 = .ok (.iconst 0, 1) := by decide +kernel
theorem d_Md_feed_2 : decode b_Md_feed 2 = .ok (.bipush 127, 2) := by decide +kernel
theorem d_Md_feed_4 : decode b_Md_feed 4 = .ok (.invokestatic 120, 3) := by decide +kernel
theorem d_Md_feed_7 : decode b_Md_feed 7 = .ok (.ifCond .ne 6, 3) := by decide +kernel
theorem d_Md_feed_10 : decode b_Md_feed 10 = .ok (.bipush (-2), 2) := by decide +kernel
theorem d_Md_feed_12 : decode b_Md_feed 12 = .ok (.ireturn, 1) := by decide +kernel
theorem d_Md_feed_13 : decode b_Md_feed 13 = .ok (.aload_n 0, 1) := by decide +kernel
theorem d_Md_feed_14 : decode b_Md_feed 14 = .ok (.getfield 143, 3) := by decide +kernel
theorem d_Md_feed_17 : decode b_Md_feed 17 = .ok (.bipush 100, 2) := by decide +kernel
theorem d_Md_feed_19 : decode b_Md_feed 19 = .ok (.if_icmp .ne 6, 3) := by decide +kernel
theorem d_Md_feed_22 : decode b_Md_feed 22 = .ok (.bipush (-4), 2) := by decide +kernel
theorem d_Md_feed_24 : decode b_Md_feed 24 = .ok (.ireturn, 1) := by decide +kernel
theorem d_Md_feed_25 : decode b_Md_feed 25 = .ok (.aload_n 0, 1) := by decide +kernel
theorem d_Md_feed_26 : decode b_Md_feed 26 = .ok (.getfield 36, 3) := by decide +kernel
theorem d_Md_feed_29 : decode b_Md_feed 29 = .ok (.aload_n 0, 1) := by decide +kernel
theorem d_Md_feed_30 : decode b_Md_feed 30 = .ok (.dup, 1) := by decide +kernel
theorem d_Md_feed_31 : decode b_Md_feed 31 = .ok (.getfield 143, 3) := by decide +kernel
theorem d_Md_feed_34 : decode b_Md_feed 34 = .ok (.dup_x1, 1) := by decide +kernel
theorem d_Md_feed_35 : decode b_Md_feed 35 = .ok (.iconst 1, 1) := by decide +kernel
theorem d_Md_feed_36 : decode b_Md_feed 36 = .ok (.iadd, 1) := by decide +kernel
theorem d_Md_feed_37 : decode b_Md_feed 37 = .ok (.putfield 143, 3) := by decide +kernel
theorem d_Md_feed_40 : decode b_Md_feed 40 = .ok (.iload_n 1, 1) := by decide +kernel
theorem d_Md_feed_41 : decode b_Md_feed 41 = .ok (.iastore, 1) := by decide +kernel
theorem d_Md_feed_42 : decode b_Md_feed 42 = .ok (.aload_n 0, 1) := by decide +kernel
theorem d_Md_feed_43 : decode b_Md_feed 43 = .ok (.getfield 143, 3) := by decide +kernel
theorem d_Md_feed_46 : decode b_Md_feed 46 = .ok (.ireturn, 1) := by decide +kernel
theorem d_Md_is_0 : decode b_Md_is 0 = .ok (.aload_n 0, 1) := by decide +kernel
theorem d_Md_is_1 : decode b_Md_is 1 = .ok (.getfield 146, 3) := by decide +kernel
theorem d_Md_is_4 : decode b_Md_is 4 = .ok (.aload_n 0, 1) := by decide +kernel
theorem d_Md_is_5 : decode b_Md_is 5 = .ok (.getfield 143, 3) := by decide +kernel
theorem d_Md_is_8 : decode b_Md_is 8 = .ok (.if_icmp .eq 16, 3) := by decide +kernel
theorem d_Md_is_11 : decode b_Md_is 11 = .ok (.aload_n 0, 1) := by decide +kernel
theorem d_Md_is_12 : decode b_Md_is 12 = .ok (.getfield 36, 3) := by decide +kernel
theorem d_Md_is_15 : decode b_Md_is 15 = .ok (.aload_n 0, 1) := by decide +kernel
theorem d_Md_is_16 : decode b_Md_is 16 = .ok (.getfield 146, 3) := by decide +kernel
theorem d_Md_is_19 : decode b_Md_is 19 = .ok (.iaload, 1) := by decide +kernel
theorem d_Md_is_20 : decode b_Md_is 20 = .ok (.iload_n 1, 1) := by decide +kernel
theorem d_Md_is_21 : decode b_Md_is 21 = .ok (.if_icmp .eq 5, 3) := by decide +kernel
theorem d_Md_is_24 : decode b_Md_is 24 = .ok (.iconst 0, 1) := by decide +kernel
theorem d_Md_is_25 : decode b_Md_is 25 = .ok (.ireturn, 1) := by decide +kernel
theorem d_Md_is_26 : decode b_Md_is 26 = .ok (.aload_n 0, 1) := by decide +kernel
theorem d_Md_is_27 : decode b_Md_is 27 = .ok (.dup, 1) := by decide +kernel
theorem d_Md_is_28 : decode b_Md_is 28 = .ok (.getfield 146, 3) := by decide +kernel
theorem d_Md_is_31 : decode b_Md_is 31 = .ok (.iconst 1, 1) := by decide +kernel
theorem d_Md_is_32 : decode b_Md_is 32 = .ok (.iadd, 1) := by decide +kernel
theorem d_Md_is_33 : decode b_Md_is 33 = .ok (.putfield 146, 3) := by decide +kernel
theorem d_Md_is_36 : decode b_Md_is 36 = .ok (.iconst 1, 1) := by decide +kernel
theorem d_Md_is_37 : decode b_Md_is 37 = .ok (.ireturn, 1) := by decide +kernel
theorem d_Md_isDigit_0 : decode b_Md_isDigit 0 = .ok (.aload_n 0, 1) := by decide +kernel
theorem d_Md_isDigit_1 : decode b_Md_isDigit 1 = .ok (.getfield 146, 3) := by decide +kernel
theorem d_Md_isDigit_4 : decode b_Md_isDigit 4 = .ok (.aload_n 0, 1) := by decide +kernel
theorem d_Md_isDigit_5 : decode b_Md_isDigit 5 = .ok (.getfield 143, 3) := by decide +kernel
theorem d_Md_isDigit_8 : decode b_Md_isDigit 8 = .ok (.if_icmp .ge 35, 3) := by decide +kernel
theorem d_Md_isDigit_11 : decode b_Md_isDigit 11 = .ok (.aload_n 0, 1) := by decide +kernel
theorem d_Md_isDigit_12 : decode b_Md_isDigit 12 = .ok (.getfield 36, 3) := by decide +kernel
theorem d_Md_isDigit_15 : decode b_Md_isDigit 15 = .ok (.aload_n 0, 1) := by decide +kernel
theorem d_Md_isDigit_16 : decode b_Md_isDigit 16 = .ok (.getfield 146, 3) := by decide +kernel
theorem d_Md_isDigit_19 : decode b_Md_isDigit 19 = .ok (.iaload, 1) := by decide +kernel
theorem d_Md_isDigit_20 : decode b_Md_isDigit 20 = .ok (.bipush 48, 2) := by decide +kernel
theorem d_Md_isDigit_22 : decode b_Md_isDigit 22 = .ok (.if_icmp .lt 21, 3) := by decide +kernel
theorem d_Md_isDigit_25 : decode b_Md_isDigit 25 = .ok (.aload_n 0, 1) := by decide +kernel
theorem d_Md_isDigit_26 : decode b_Md_isDigit 26 = .ok (.getfield 36, 3) := by decide +kernel
theorem d_Md_isDigit_29 : decode b_Md_isDigit 29 = .ok (.aload_n 0, 1) := by decide +kernel
theorem d_Md_isDigit_30 : decode b_Md_isDigit 30 = .ok (.getfield 146, 3) := by decide +kernel
theorem d_Md_isDigit_33 : decode b_Md_isDigit 33 = .ok (.iaload, 1) := by decide +kernel
theorem d_Md_isDigit_34 : decode b_Md_isDigit 34 = .ok (.bipush 57, 2) := by decide +kernel
theorem d_Md_isDigit_36 : decode b_Md_isDigit 36 = .ok (.if_icmp .gt 7, 3) := by decide +kernel
theorem d_Md_isDigit_39 : decode b_Md_isDigit 39 = .ok (.iconst 1, 1) := by decide +kernel
theorem d_Md_isDigit_40 : decode b_Md_isDigit 40 = .ok (.goto 4, 3) := by decide +kernel
theorem d_Md_isDigit_43 : decode b_Md_isDigit 43 = .ok (.iconst 0, 1) := by decide +kernel
theorem d_Md_isDigit_44 : decode b_Md_isDigit 44 = .ok (.ireturn, 1) := by decide +kernel
theorem d_Md_isNumber_0 : decode b_Md_isNumber 0 = .ok (.aload_n 0, 1) := by decide +kernel
theorem d_Md_isNumber_1 : decode b_Md_isNumber 1 = .ok (.iconst 0, 1) := by decide +kernel
theorem d_Md_isNumber_2 : decode b_Md_isNumber 2 = .ok (.putfield 149, 3) := by decide +kernel
theorem d_Md_isNumber_5 : decode b_Md_isNumber 5 = .ok (.aload_n 0, 1) := by decide +kernel
theorem d_Md_isNumber_6 : decode b_Md_isNumber 6 = .ok (.iconst 0, 1) := by decide +kernel
theorem d_Md_isNumber_7 : decode b_Md_isNumber 7 = .ok (.putfield 152, 3) := by decide +kernel
theorem d_Md_isNumber_10 : decode b_Md_isNumber 10 = .ok (.aload_n 0, 1) := by decide +kernel
theorem d_Md_isNumber_11 : decode b_Md_isNumber 11 = .ok (.getfield 152, 3) := by decide +kernel
theorem d_Md_isNumber_14 : decode b_Md_isNumber 14 = .ok (.iconst 2, 1) := by decide +kernel
theorem d_Md_isNumber_15 : decode b_Md_isNumber 15 = .ok (.if_icmp .ge 57, 3) := by decide +kernel
theorem d_Md_isNumber_18 : decode b_Md_isNumber 18 = .ok (.aload_n 0, 1) := by decide +kernel
theorem d_Md_isNumber_19 : decode b_Md_isNumber 19 = .ok (.invokevirtual 155, 3) := by decide +kernel
theorem d_Md_isNumber_22 : decode b_Md_isNumber 22 = .ok (.ifCond .eq 50, 3) := by decide +kernel
theorem d_Md_isNumber_25 : decode b_Md_isNumber 25 = .ok (.aload_n 0, 1) := by decide +kernel
theorem d_Md_isNumber_26 : decode b_Md_isNumber 26 = .ok (.bipush 10, 2) := by decide +kernel
theorem d_Md_isNumber_28 : decode b_Md_isNumber 28 = .ok (.aload_n 0, 1) := by decide +kernel
theorem d_Md_isNumber_29 : decode b_Md_isNumber 29 = .ok (.getfield 149, 3) := by decide +kernel
theorem d_Md_isNumber_32 : decode b_Md_isNumber 32 = .ok (.imul, 1) := by decide +kernel
theorem d_Md_isNumber_33 : decode b_Md_isNumber 33 = .ok (.aload_n 0, 1) := by decide +kernel
theorem d_Md_isNumber_34 : decode b_Md_isNumber 34 = .ok (.getfield 36, 3) := by decide +kernel
theorem d_Md_isNumber_37 : decode b_Md_isNumber 37 = .ok (.aload_n 0, 1) := by decide +kernel
theorem d_Md_isNumber_38 : decode b_Md_isNumber 38 = .ok (.getfield 146, 3) := by decide +kernel
theorem d_Md_isNumber_41 : decode b_Md_isNumber 41 = .ok (.iaload, 1) := by decide +kernel
theorem d_Md_isNumber_42 : decode b_Md_isNumber 42 = .ok (.iadd, 1) := by decide +kernel
theorem d_Md_isNumber_43 : decode b_Md_isNumber 43 = .ok (.bipush 48, 2) := by decide +kernel
theorem d_Md_isNumber_45 : decode b_Md_isNumber 45 = .ok (.isub, 1) := by decide +kernel
theorem d_Md_isNumber_46 : decode b_Md_isNumber 46 = .ok (.putfield 149, 3) := by decide +kernel
theorem d_Md_isNumber_49 : decode b_Md_isNumber 49 = .ok (.aload_n 0, 1) := by decide +kernel
theorem d_Md_isNumber_50 : decode b_Md_isNumber 50 = .ok (.dup, 1) := by decide +kernel
theorem d_Md_isNumber_51 : decode b_Md_isNumber 51 = .ok (.getfield 146, 3) := by decide +kernel
theorem d_Md_isNumber_54 : decode b_Md_isNumber 54 = .ok (.iconst 1, 1) := by decide +kernel
theorem d_Md_isNumber_55 : decode b_Md_isNumber 55 = .ok (.iadd, 1) := by decide +kernel
theorem d_Md_isNumber_56 : decode b_Md_isNumber 56 = .ok (.putfield 146, 3) := by decide +kernel
theorem d_Md_isNumber_59 : decode b_Md_isNumber 59 = .ok (.aload_n 0, 1) := by decide +kernel
theorem d_Md_isNumber_60 : decode b_Md_isNumber 60 = .ok (.dup, 1) := by decide +kernel
theorem d_Md_isNumber_61 : decode b_Md_isNumber 61 = .ok (.getfield 152, 3) := by decide +kernel
theorem d_Md_isNumber_64 : decode b_Md_isNumber 64 = .ok (.iconst 1, 1) := by decide +kernel
theorem d_Md_isNumber_65 : decode b_Md_isNumber 65 = .ok (.iadd, 1) := by decide +kernel
theorem d_Md_isNumber_66 : decode b_Md_isNumber 66 = .ok (.putfield 152, 3) := by decide +kernel
theorem d_Md_isNumber_69 : decode b_Md_isNumber 69 = .ok (.goto (-59), 3) := by decide +kernel
theorem d_Md_isNumber_72 : decode b_Md_isNumber 72 = .ok (.aload_n 0, 1) := by decide +kernel
theorem d_Md_isNumber_73 : decode b_Md_isNumber 73 = .ok (.getfield 152, 3) := by decide +kernel
theorem d_Md_isNumber_76 : decode b_Md_isNumber 76 = .ok (.ifCond .le 7, 3) := by decide +kernel
theorem d_Md_isNumber_79 : decode b_Md_isNumber 79 = .ok (.iconst 1, 1) := by decide +kernel
theorem d_Md_isNumber_80 : decode b_Md_isNumber 80 = .ok (.goto 4, 3) := by decide +kernel
theorem d_Md_isNumber_83 : decode b_Md_isNumber 83 = .ok (.iconst 0, 1) := by decide +kernel
theorem d_Md_isNumber_84 : decode b_Md_isNumber 84 = .ok (.ireturn, 1) := by decide +kernel
theorem d_Md_isAll_0 : decode b_Md_isAll 0 = .ok (.iconst 0, 1) := by decide +kernel
theorem d_Md_isAll_1 : decode b_Md_isAll 1 = .ok (.istore_n 2, 1) := by decide +kernel
theorem d_Md_isAll_2 : decode b_Md_isAll 2 = .ok (.iload_n 2, 1) := by decide +kernel
theorem d_Md_isAll_3 : decode b_Md_isAll 3 = .ok (.aload_n 1, 1) := by decide +kernel
theorem d_Md_isAll_4 : decode b_Md_isAll 4 = .ok (.invokevirtual 159, 3) := by decide +kernel
theorem d_Md_isAll_7 : decode b_Md_isAll 7 = .ok (.if_icmp .ge 23, 3) := by decide +kernel
theorem d_Md_isAll_10 : decode b_Md_isAll 10 = .ok (.aload_n 0, 1) := by decide +kernel
theorem d_Md_isAll_11 : decode b_Md_isAll 11 = .ok (.aload_n 1, 1) := by decide +kernel
theorem d_Md_isAll_12 : decode b_Md_isAll 12 = .ok (.iload_n 2, 1) := by decide +kernel
theorem d_Md_isAll_13 : decode b_Md_isAll 13 = .ok (.invokevirtual 164, 3) := by decide +kernel
theorem d_Md_isAll_16 : decode b_Md_isAll 16 = .ok (.invokevirtual 168, 3) := by decide +kernel
theorem d_Md_isAll_19 : decode b_Md_isAll 19 = .ok (.ifCond .ne 5, 3) := by decide +kernel
theorem d_Md_isAll_22 : decode b_Md_isAll 22 = .ok (.iconst 0, 1) := by decide +kernel
theorem d_Md_isAll_23 : decode b_Md_isAll 23 = .ok (.ireturn, 1) := by decide +kernel
theorem d_Md_isAll_24 : decode b_Md_isAll 24 = .ok (.iinc 2 1, 3) := by decide +kernel
theorem d_Md_isAll_27 : decode b_Md_isAll 27 = .ok (.goto (-25), 3) := by decide +kernel
theorem d_Md_isAll_30 : decode b_Md_isAll 30 = .ok (.iconst 1, 1) := by decide +kernel
theorem d_Md_isAll_31 : decode b_Md_isAll 31 = .ok (.ireturn, 1) := by decide +kernel
theorem d_Md_codes_0 : decode b_Md_codes 0 = .ok (.aload_n 0, 1) := by decide +kernel
theorem d_Md_codes_1 : decode b_Md_codes 1 = .ok (.getfield 54, 3) := by decide +kernel
theorem d_Md_codes_4 : decode b_Md_codes 4 = .ok (.aload_n 0, 1) := by decide +kernel
theorem d_Md_codes_5 : decode b_Md_codes 5 = .ok (.dup, 1) := by decide +kernel
theorem d_Md_codes_6 : decode b_Md_codes 6 = .ok (.getfield 171, 3) := by decide +kernel
theorem d_Md_codes_9 : decode b_Md_codes 9 = .ok (.dup_x1, 1) := by decide +kernel
theorem d_Md_codes_10 : decode b_Md_codes 10 = .ok (.iconst 1, 1) := by decide +kernel
theorem d_Md_codes_11 : decode b_Md_codes 11 = .ok (.iadd, 1) := by decide +kernel
theorem d_Md_codes_12 : decode b_Md_codes 12 = .ok (.putfield 171, 3) := by decide +kernel
theorem d_Md_codes_15 : decode b_Md_codes 15 = .ok (.iload_n 1, 1) := by decide +kernel
theorem d_Md_codes_16 : decode b_Md_codes 16 = .ok (.iastore, 1) := by decide +kernel
theorem d_Md_codes_17 : decode b_Md_codes 17 = .ok (.iconst 1, 1) := by decide +kernel
theorem d_Md_codes_18 : decode b_Md_codes 18 = .ok (.ireturn, 1) := by decide +kernel
theorem d_Md_isTest_0 : decode b_Md_isTest 0 = .ok (.aload_n 0, 1) := by decide +kernel
theorem d_Md_isTest_1 : decode b_Md_isTest 1 = .ok (.getfield 146, 3) := by decide +kernel
theorem d_Md_isTest_4 : decode b_Md_isTest 4 = .ok (.aload_n 0, 1) := by decide +kernel
theorem d_Md_isTest_5 : decode b_Md_isTest 5 = .ok (.getfield 143, 3) := by decide +kernel
theorem d_Md_isTest_8 : decode b_Md_isTest 8 = .ok (.if_icmp .ge 32, 3) := by decide +kernel
theorem d_Md_isTest_11 : decode b_Md_isTest 11 = .ok (.aload_n 0, 1) := by decide +kernel
theorem d_Md_isTest_12 : decode b_Md_isTest 12 = .ok (.getfield 36, 3) := by decide +kernel
theorem d_Md_isTest_15 : decode b_Md_isTest 15 = .ok (.aload_n 0, 1) := by decide +kernel
theorem d_Md_isTest_16 : decode b_Md_isTest 16 = .ok (.getfield 146, 3) := by decide +kernel
theorem d_Md_isTest_19 : decode b_Md_isTest 19 = .ok (.iaload, 1) := by decide +kernel
theorem d_Md_isTest_20 : decode b_Md_isTest 20 = .ok (.ifCond .le 20, 3) := by decide +kernel
theorem d_Md_isTest_23 : decode b_Md_isTest 23 = .ok (.ldc 174, 2) := by decide +kernel
theorem d_Md_isTest_25 : decode b_Md_isTest 25 = .ok (.aload_n 0, 1) := by decide +kernel
theorem d_Md_isTest_26 : decode b_Md_isTest 26 = .ok (.getfield 36, 3) := by decide +kernel
theorem d_Md_isTest_29 : decode b_Md_isTest 29 = .ok (.aload_n 0, 1) := by decide +kernel
theorem d_Md_isTest_30 : decode b_Md_isTest 30 = .ok (.getfield 146, 3) := by decide +kernel
theorem d_Md_isTest_33 : decode b_Md_isTest 33 = .ok (.iaload, 1) := by decide +kernel
theorem d_Md_isTest_34 : decode b_Md_isTest 34 = .ok (.invokevirtual 176, 3) := by decide +kernel
theorem d_Md_isTest_37 : decode b_Md_isTest 37 = .ok (.goto 4, 3) := by decide +kernel
theorem d_Md_isTest_40 : decode b_Md_isTest 40 = .ok (.iconst (-1), 1) := by decide +kernel
theorem d_Md_isTest_41 : decode b_Md_isTest 41 = .ok (.istore_n 1, 1) := by decide +kernel
theorem d_Md_isTest_42 : decode b_Md_isTest 42 = .ok (.iload_n 1, 1) := by decide +kernel
theorem d_Md_isTest_43 : decode b_Md_isTest 43 = .ok (.ifCond .ge 5, 3) := by decide +kernel
theorem d_Md_isTest_46 : decode b_Md_isTest 46 = .ok (.iconst 0, 1) := by decide +kernel
theorem d_Md_isTest_47 : decode b_Md_isTest 47 = .ok (.ireturn, 1) := by decide +kernel
theorem d_Md_isTest_48 : decode b_Md_isTest 48 = .ok (.aload_n 0, 1) := by decide +kernel
theorem d_Md_isTest_49 : decode b_Md_isTest 49 = .ok (.dup, 1) := by decide +kernel
theorem d_Md_isTest_50 : decode b_Md_isTest 50 = .ok (.getfield 146, 3) := by decide +kernel
theorem d_Md_isTest_53 : decode b_Md_isTest 53 = .ok (.iconst 1, 1) := by decide +kernel
theorem d_Md_isTest_54 : decode b_Md_isTest 54 = .ok (.iadd, 1) := by decide +kernel
theorem d_Md_isTest_55 : decode b_Md_isTest 55 = .ok (.putfield 146, 3) := by decide +kernel
theorem d_Md_isTest_58 : decode b_Md_isTest 58 = .ok (.aload_n 0, 1) := by decide +kernel
theorem d_Md_isTest_59 : decode b_Md_isTest 59 = .ok (.getfield 146, 3) := by decide +kernel
theorem d_Md_isTest_62 : decode b_Md_isTest 62 = .ok (.aload_n 0, 1) := by decide +kernel
theorem d_Md_isTest_63 : decode b_Md_isTest 63 = .ok (.getfield 143, 3) := by decide +kernel
theorem d_Md_isTest_66 : decode b_Md_isTest 66 = .ok (.if_icmp .ge 32, 3) := by decide +kernel
theorem d_Md_isTest_69 : decode b_Md_isTest 69 = .ok (.aload_n 0, 1) := by decide +kernel
theorem d_Md_isTest_70 : decode b_Md_isTest 70 = .ok (.getfield 36, 3) := by decide +kernel
theorem d_Md_isTest_73 : decode b_Md_isTest 73 = .ok (.aload_n 0, 1) := by decide +kernel
theorem d_Md_isTest_74 : decode b_Md_isTest 74 = .ok (.getfield 146, 3) := by decide +kernel
theorem d_Md_isTest_77 : decode b_Md_isTest 77 = .ok (.iaload, 1) := by decide +kernel
theorem d_Md_isTest_78 : decode b_Md_isTest 78 = .ok (.ifCond .le 20, 3) := by decide +kernel
theorem d_Md_isTest_81 : decode b_Md_isTest 81 = .ok (.ldc 179, 2) := by decide +kernel
theorem d_Md_isTest_83 : decode b_Md_isTest 83 = .ok (.aload_n 0, 1) := by decide +kernel
theorem d_Md_isTest_84 : decode b_Md_isTest 84 = .ok (.getfield 36, 3) := by decide +kernel
theorem d_Md_isTest_87 : decode b_Md_isTest 87 = .ok (.aload_n 0, 1) := by decide +kernel
theorem d_Md_isTest_88 : decode b_Md_isTest 88 = .ok (.getfield 146, 3) := by decide +kernel
theorem d_Md_isTest_91 : decode b_Md_isTest 91 = .ok (.iaload, 1) := by decide +kernel
theorem d_Md_isTest_92 : decode b_Md_isTest 92 = .ok (.invokevirtual 176, 3) := by decide +kernel
theorem d_Md_isTest_95 : decode b_Md_isTest 95 = .ok (.goto 4, 3) := by decide +kernel
theorem d_Md_isTest_98 : decode b_Md_isTest 98 = .ok (.iconst (-1), 1) := by decide +kernel
theorem d_Md_isTest_99 : decode b_Md_isTest 99 = .ok (.istore_n 2, 1) := by decide +kernel
theorem d_Md_isTest_100 : decode b_Md_isTest 100 = .ok (.iload_n 2, 1) := by decide +kernel
theorem d_Md_isTest_101 : decode b_Md_isTest 101 = .ok (.ifCond .ge 5, 3) := by decide +kernel
theorem d_Md_isTest_104 : decode b_Md_isTest 104 = .ok (.iconst 0, 1) := by decide +kernel
theorem d_Md_isTest_105 : decode b_Md_isTest 105 = .ok (.ireturn, 1) := by decide +kernel
theorem d_Md_isTest_106 : decode b_Md_isTest 106 = .ok (.aload_n 0, 1) := by decide +kernel
theorem d_Md_isTest_107 : decode b_Md_isTest 107 = .ok (.dup, 1) := by decide +kernel
theorem d_Md_isTest_108 : decode b_Md_isTest 108 = .ok (.getfield 146, 3) := by decide +kernel
theorem d_Md_isTest_111 : decode b_Md_isTest 111 = .ok (.iconst 1, 1) := by decide +kernel
theorem d_Md_isTest_112 : decode b_Md_isTest 112 = .ok (.iadd, 1) := by decide +kernel
theorem d_Md_isTest_113 : decode b_Md_isTest 113 = .ok (.putfield 146, 3) := by decide +kernel
theorem d_Md_isTest_116 : decode b_Md_isTest 116 = .ok (.aload_n 0, 1) := by decide +kernel
theorem d_Md_isTest_117 : decode b_Md_isTest 117 = .ok (.invokevirtual 181, 3) := by decide +kernel
theorem d_Md_isTest_120 : decode b_Md_isTest 120 = .ok (.ifCond .eq 31, 3) := by decide +kernel
theorem d_Md_isTest_123 : decode b_Md_isTest 123 = .ok (.aload_n 0, 1) := by decide +kernel
theorem d_Md_isTest_124 : decode b_Md_isTest 124 = .ok (.iconst 3, 1) := by decide +kernel
theorem d_Md_isTest_125 : decode b_Md_isTest 125 = .ok (.sipush 300, 3) := by decide +kernel
theorem d_Md_isTest_128 : decode b_Md_isTest 128 = .ok (.iload_n 1, 1) := by decide +kernel
theorem d_Md_isTest_129 : decode b_Md_isTest 129 = .ok (.imul, 1) := by decide +kernel
theorem d_Md_isTest_130 : decode b_Md_isTest 130 = .ok (.iadd, 1) := by decide +kernel
theorem d_Md_isTest_131 : decode b_Md_isTest 131 = .ok (.bipush 100, 2) := by decide +kernel
theorem d_Md_isTest_133 : decode b_Md_isTest 133 = .ok (.iload_n 2, 1) := by decide +kernel
theorem d_Md_isTest_134 : decode b_Md_isTest 134 = .ok (.imul, 1) := by decide +kernel
theorem d_Md_isTest_135 : decode b_Md_isTest 135 = .ok (.iadd, 1) := by decide +kernel
theorem d_Md_isTest_136 : decode b_Md_isTest 136 = .ok (.aload_n 0, 1) := by decide +kernel
theorem d_Md_isTest_137 : decode b_Md_isTest 137 = .ok (.getfield 149, 3) := by decide +kernel
theorem d_Md_isTest_140 : decode b_Md_isTest 140 = .ok (.iadd, 1) := by decide +kernel
theorem d_Md_isTest_141 : decode b_Md_isTest 141 = .ok (.invokevirtual 184, 3) := by decide +kernel
theorem d_Md_isTest_144 : decode b_Md_isTest 144 = .ok (.ifCond .eq 7, 3) := by decide +kernel
theorem d_Md_isTest_147 : decode b_Md_isTest 147 = .ok (.iconst 1, 1) := by decide +kernel
theorem d_Md_isTest_148 : decode b_Md_isTest 148 = .ok (.goto 4, 3) := by decide +kernel
theorem d_Md_isTest_151 : decode b_Md_isTest 151 = .ok (.iconst 0, 1) := by decide +kernel
theorem d_Md_isTest_152 : decode b_Md_isTest 152 = .ok (.ireturn, 1) := by decide +kernel
theorem d_Md_isOpened_0 : decode b_Md_isOpened 0 = .ok (.aload_n 0, 1) := by decide +kernel
theorem d_Md_isOpened_1 : decode b_Md_isOpened 1 = .ok (.getfield 187, 3) := by decide +kernel
theorem d_Md_isOpened_4 : decode b_Md_isOpened 4 = .ok (.iconst 4, 1) := by decide +kernel
theorem d_Md_isOpened_5 : decode b_Md_isOpened 5 = .ok (.if_icmp .eq 11, 3) := by decide +kernel
theorem d_Md_isOpened_8 : decode b_Md_isOpened 8 = .ok (.aload_n 0, 1) := by decide +kernel
theorem d_Md_isOpened_9 : decode b_Md_isOpened 9 = .ok (.iload_n 1, 1) := by decide +kernel
theorem d_Md_isOpened_10 : decode b_Md_isOpened 10 = .ok (.invokevirtual 168, 3) := by decide +kernel
theorem d_Md_isOpened_13 : decode b_Md_isOpened 13 = .ok (.ifCond .ne 5, 3) := by decide +kernel
theorem d_Md_isOpened_16 : decode b_Md_isOpened 16 = .ok (.iconst 0, 1) := by decide +kernel
theorem d_Md_isOpened_17 : decode b_Md_isOpened 17 = .ok (.ireturn, 1) := by decide +kernel
theorem d_Md_isOpened_18 : decode b_Md_isOpened 18 = .ok (.aload_n 0, 1) := by decide +kernel
theorem d_Md_isOpened_19 : decode b_Md_isOpened 19 = .ok (.dup, 1) := by decide +kernel
theorem d_Md_isOpened_20 : decode b_Md_isOpened 20 = .ok (.getfield 187, 3) := by decide +kernel
theorem d_Md_isOpened_23 : decode b_Md_isOpened 23 = .ok (.iconst 1, 1) := by decide +kernel
theorem d_Md_isOpened_24 : decode b_Md_isOpened 24 = .ok (.iadd, 1) := by decide +kernel
theorem d_Md_isOpened_25 : decode b_Md_isOpened 25 = .ok (.putfield 187, 3) := by decide +kernel
theorem d_Md_isOpened_28 : decode b_Md_isOpened 28 = .ok (.iconst 1, 1) := by decide +kernel
theorem d_Md_isOpened_29 : decode b_Md_isOpened 29 = .ok (.ireturn, 1) := by decide +kernel
theorem d_Md_isF_0 : decode b_Md_isF 0 = .ok (.aload_n 0, 1) := by decide +kernel
theorem d_Md_isF_1 : decode b_Md_isF 1 = .ok (.bipush 33, 2) := by decide +kernel
theorem d_Md_isF_3 : decode b_Md_isF 3 = .ok (.invokevirtual 190, 3) := by decide +kernel
theorem d_Md_isF_6 : decode b_Md_isF 6 = .ok (.ifCond .eq 27, 3) := by decide +kernel
theorem d_Md_isF_9 : decode b_Md_isF 9 = .ok (.aload_n 0, 1) := by decide +kernel
theorem d_Md_isF_10 : decode b_Md_isF 10 = .ok (.invokevirtual 193, 3) := by decide +kernel
theorem d_Md_isF_13 : decode b_Md_isF 13 = .ok (.ifCond .eq 15, 3) := by decide +kernel
theorem d_Md_isF_16 : decode b_Md_isF 16 = .ok (.aload_n 0, 1) := by decide +kernel
theorem d_Md_isF_17 : decode b_Md_isF 17 = .ok (.iconst 0, 1) := by decide +kernel
theorem d_Md_isF_18 : decode b_Md_isF 18 = .ok (.invokevirtual 184, 3) := by decide +kernel
theorem d_Md_isF_21 : decode b_Md_isF 21 = .ok (.ifCond .eq 7, 3) := by decide +kernel
theorem d_Md_isF_24 : decode b_Md_isF 24 = .ok (.iconst 1, 1) := by decide +kernel
theorem d_Md_isF_25 : decode b_Md_isF 25 = .ok (.goto 4, 3) := by decide +kernel
theorem d_Md_isF_28 : decode b_Md_isF 28 = .ok (.iconst 0, 1) := by decide +kernel
theorem d_Md_isF_29 : decode b_Md_isF 29 = .ok (.istore_n 1, 1) := by decide +kernel
theorem d_Md_isF_30 : decode b_Md_isF 30 = .ok (.goto 42, 3) := by decide +kernel
theorem d_Md_isF_33 : decode b_Md_isF 33 = .ok (.aload_n 0, 1) := by decide +kernel
theorem d_Md_isF_34 : decode b_Md_isF 34 = .ok (.bipush 40, 2) := by decide +kernel
theorem d_Md_isF_36 : decode b_Md_isF 36 = .ok (.invokevirtual 190, 3) := by decide +kernel
theorem d_Md_isF_39 : decode b_Md_isF 39 = .ok (.ifCond .eq 28, 3) := by decide +kernel
theorem d_Md_isF_42 : decode b_Md_isF 42 = .ok (.aload_n 0, 1) := by decide +kernel
theorem d_Md_isF_43 : decode b_Md_isF 43 = .ok (.invokevirtual 196, 3) := by decide +kernel
theorem d_Md_isF_46 : decode b_Md_isF 46 = .ok (.ifCond .eq 16, 3) := by decide +kernel
theorem d_Md_isF_49 : decode b_Md_isF 49 = .ok (.aload_n 0, 1) := by decide +kernel
theorem d_Md_isF_50 : decode b_Md_isF 50 = .ok (.bipush 41, 2) := by decide +kernel
theorem d_Md_isF_52 : decode b_Md_isF 52 = .ok (.invokevirtual 168, 3) := by decide +kernel
theorem d_Md_isF_55 : decode b_Md_isF 55 = .ok (.ifCond .eq 7, 3) := by decide +kernel
theorem d_Md_isF_58 : decode b_Md_isF 58 = .ok (.iconst 1, 1) := by decide +kernel
theorem d_Md_isF_59 : decode b_Md_isF 59 = .ok (.goto 4, 3) := by decide +kernel
theorem d_Md_isF_62 : decode b_Md_isF 62 = .ok (.iconst 0, 1) := by decide +kernel
theorem d_Md_isF_63 : decode b_Md_isF 63 = .ok (.istore_n 1, 1) := by decide +kernel
theorem d_Md_isF_64 : decode b_Md_isF 64 = .ok (.goto 8, 3) := by decide +kernel
theorem d_Md_isF_67 : decode b_Md_isF 67 = .ok (.aload_n 0, 1) := by decide +kernel
theorem d_Md_isF_68 : decode b_Md_isF 68 = .ok (.invokevirtual 199, 3) := by decide +kernel
theorem d_Md_isF_71 : decode b_Md_isF 71 = .ok (.ireturn, 1) := by decide +kernel
theorem d_Md_isF_72 : decode b_Md_isF 72 = .ok (.aload_n 0, 1) := by decide +kernel
theorem d_Md_isF_73 : decode b_Md_isF 73 = .ok (.dup, 1) := by decide +kernel
theorem d_Md_isF_74 : decode b_Md_isF 74 = .ok (.getfield 187, 3) := by decide +kernel
theorem d_Md_isF_77 : decode b_Md_isF 77 = .ok (.iconst 1, 1) := by decide +kernel
theorem d_Md_isF_78 : decode b_Md_isF 78 = .ok (.isub, 1) := by decide +kernel
theorem d_Md_isF_79 : decode b_Md_isF 79 = .ok (.putfield 187, 3) := by decide +kernel
theorem d_Md_isF_82 : decode b_Md_isF 82 = .ok (.iload_n 1, 1) := by decide +kernel
theorem d_Md_isF_83 : decode b_Md_isF 83 = .ok (.ireturn, 1) := by decide +kernel
theorem d_Md_isT_0 : decode b_Md_isT 0 = .ok (.aload_n 0, 1) := by decide +kernel
theorem d_Md_isT_1 : decode b_Md_isT 1 = .ok (.invokevirtual 193, 3) := by decide +kernel
theorem d_Md_isT_4 : decode b_Md_isT 4 = .ok (.ifCond .ne 5, 3) := by decide +kernel
theorem d_Md_isT_7 : decode b_Md_isT 7 = .ok (.iconst 0, 1) := by decide +kernel
theorem d_Md_isT_8 : decode b_Md_isT 8 = .ok (.ireturn, 1) := by decide +kernel
theorem d_Md_isT_9 : decode b_Md_isT 9 = .ok (.aload_n 0, 1) := by decide +kernel
theorem d_Md_isT_10 : decode b_Md_isT 10 = .ok (.bipush 38, 2) := by decide +kernel
theorem d_Md_isT_12 : decode b_Md_isT 12 = .ok (.invokevirtual 168, 3) := by decide +kernel
theorem d_Md_isT_15 : decode b_Md_isT 15 = .ok (.ifCond .eq 20, 3) := by decide +kernel
theorem d_Md_isT_18 : decode b_Md_isT 18 = .ok (.aload_n 0, 1) := by decide +kernel
theorem d_Md_isT_19 : decode b_Md_isT 19 = .ok (.invokevirtual 193, 3) := by decide +kernel
theorem d_Md_isT_22 : decode b_Md_isT 22 = .ok (.ifCond .eq 11, 3) := by decide +kernel
theorem d_Md_isT_25 : decode b_Md_isT 25 = .ok (.aload_n 0, 1) := by decide +kernel
theorem d_Md_isT_26 : decode b_Md_isT 26 = .ok (.iconst 1, 1) := by decide +kernel
theorem d_Md_isT_27 : decode b_Md_isT 27 = .ok (.invokevirtual 184, 3) := by decide +kernel
theorem d_Md_isT_30 : decode b_Md_isT 30 = .ok (.ifCond .ne (-21), 3) := by decide +kernel
theorem d_Md_isT_33 : decode b_Md_isT 33 = .ok (.iconst 0, 1) := by decide +kernel
theorem d_Md_isT_34 : decode b_Md_isT 34 = .ok (.ireturn, 1) := by decide +kernel
theorem d_Md_isT_35 : decode b_Md_isT 35 = .ok (.iconst 1, 1) := by decide +kernel
theorem d_Md_isT_36 : decode b_Md_isT 36 = .ok (.ireturn, 1) := by decide +kernel
theorem d_Md_isE_0 : decode b_Md_isE 0 = .ok (.aload_n 0, 1) := by decide +kernel
theorem d_Md_isE_1 : decode b_Md_isE 1 = .ok (.invokevirtual 202, 3) := by decide +kernel
theorem d_Md_isE_4 : decode b_Md_isE 4 = .ok (.ifCond .ne 5, 3) := by decide +kernel
theorem d_Md_isE_7 : decode b_Md_isE 7 = .ok (.iconst 0, 1) := by decide +kernel
theorem d_Md_isE_8 : decode b_Md_isE 8 = .ok (.ireturn, 1) := by decide +kernel
theorem d_Md_isE_9 : decode b_Md_isE 9 = .ok (.aload_n 0, 1) := by decide +kernel
theorem d_Md_isE_10 : decode b_Md_isE 10 = .ok (.bipush 124, 2) := by decide +kernel
theorem d_Md_isE_12 : decode b_Md_isE 12 = .ok (.invokevirtual 168, 3) := by decide +kernel
theorem d_Md_isE_15 : decode b_Md_isE 15 = .ok (.ifCond .eq 20, 3) := by decide +kernel
theorem d_Md_isE_18 : decode b_Md_isE 18 = .ok (.aload_n 0, 1) := by decide +kernel
theorem d_Md_isE_19 : decode b_Md_isE 19 = .ok (.invokevirtual 202, 3) := by decide +kernel
theorem d_Md_isE_22 : decode b_Md_isE 22 = .ok (.ifCond .eq 11, 3) := by decide +kernel
theorem d_Md_isE_25 : decode b_Md_isE 25 = .ok (.aload_n 0, 1) := by decide +kernel
theorem d_Md_isE_26 : decode b_Md_isE 26 = .ok (.iconst 2, 1) := by decide +kernel
theorem d_Md_isE_27 : decode b_Md_isE 27 = .ok (.invokevirtual 184, 3) := by decide +kernel
theorem d_Md_isE_30 : decode b_Md_isE 30 = .ok (.ifCond .ne (-21), 3) := by decide +kernel
theorem d_Md_isE_33 : decode b_Md_isE 33 = .ok (.iconst 0, 1) := by decide +kernel
theorem d_Md_isE_34 : decode b_Md_isE 34 = .ok (.ireturn, 1) := by decide +kernel
theorem d_Md_isE_35 : decode b_Md_isE 35 = .ok (.iconst 1, 1) := by decide +kernel
theorem d_Md_isE_36 : decode b_Md_isE 36 = .ok (.ireturn, 1) := by decide +kernel
theorem d_Md_isClause_0 : decode b_Md_isClause 0 = .ok (.iconst (-1), 1) := by decide +kernel
theorem d_Md_isClause_1 : decode b_Md_isClause 1 = .ok (.istore_n 2, 1) := by decide +kernel
theorem d_Md_isClause_2 : decode b_Md_isClause 2 = .ok (.aload_n 0, 1) := by decide +kernel
theorem d_Md_isClause_3 : decode b_Md_isClause 3 = .ok (.getfield 146, 3) := by decide +kernel
theorem d_Md_isClause_6 : decode b_Md_isClause 6 = .ok (.aload_n 0, 1) := by decide +kernel
theorem d_Md_isClause_7 : decode b_Md_isClause 7 = .ok (.getfield 143, 3) := by decide +kernel
theorem d_Md_isClause_10 : decode b_Md_isClause 10 = .ok (.if_icmp .ge 59, 3) := by decide +kernel
theorem d_Md_isClause_13 : decode b_Md_isClause 13 = .ok (.aload_n 0, 1) := by decide +kernel
theorem d_Md_isClause_14 : decode b_Md_isClause 14 = .ok (.getfield 36, 3) := by decide +kernel
theorem d_Md_isClause_17 : decode b_Md_isClause 17 = .ok (.aload_n 0, 1) := by decide +kernel
theorem d_Md_isClause_18 : decode b_Md_isClause 18 = .ok (.getfield 146, 3) := by decide +kernel
theorem d_Md_isClause_21 : decode b_Md_isClause 21 = .ok (.iaload, 1) := by decide +kernel
theorem d_Md_isClause_22 : decode b_Md_isClause 22 = .ok (.bipush 97, 2) := by decide +kernel
theorem d_Md_isClause_24 : decode b_Md_isClause 24 = .ok (.if_icmp .ne 7, 3) := by decide +kernel
theorem d_Md_isClause_27 : decode b_Md_isClause 27 = .ok (.iconst 0, 1) := by decide +kernel
theorem d_Md_isClause_28 : decode b_Md_isClause 28 = .ok (.goto 40, 3) := by decide +kernel
theorem d_Md_isClause_31 : decode b_Md_isClause 31 = .ok (.aload_n 0, 1) := by decide +kernel
theorem d_Md_isClause_32 : decode b_Md_isClause 32 = .ok (.getfield 36, 3) := by decide +kernel
theorem d_Md_isClause_35 : decode b_Md_isClause 35 = .ok (.aload_n 0, 1) := by decide +kernel
theorem d_Md_isClause_36 : decode b_Md_isClause 36 = .ok (.getfield 146, 3) := by decide +kernel
theorem d_Md_isClause_39 : decode b_Md_isClause 39 = .ok (.iaload, 1) := by decide +kernel
theorem d_Md_isClause_40 : decode b_Md_isClause 40 = .ok (.bipush 99, 2) := by decide +kernel
theorem d_Md_isClause_42 : decode b_Md_isClause 42 = .ok (.if_icmp .ne 7, 3) := by decide +kernel
theorem d_Md_isClause_45 : decode b_Md_isClause 45 = .ok (.iconst 1, 1) := by decide +kernel
theorem d_Md_isClause_46 : decode b_Md_isClause 46 = .ok (.goto 22, 3) := by decide +kernel
theorem d_Md_isClause_49 : decode b_Md_isClause 49 = .ok (.aload_n 0, 1) := by decide +kernel
theorem d_Md_isClause_50 : decode b_Md_isClause 50 = .ok (.getfield 36, 3) := by decide +kernel
theorem d_Md_isClause_53 : decode b_Md_isClause 53 = .ok (.aload_n 0, 1) := by decide +kernel
theorem d_Md_isClause_54 : decode b_Md_isClause 54 = .ok (.getfield 146, 3) := by decide +kernel
theorem d_Md_isClause_57 : decode b_Md_isClause 57 = .ok (.iaload, 1) := by decide +kernel
theorem d_Md_isClause_58 : decode b_Md_isClause 58 = .ok (.bipush 108, 2) := by decide +kernel
theorem d_Md_isClause_60 : decode b_Md_isClause 60 = .ok (.if_icmp .ne 7, 3) := by decide +kernel
theorem d_Md_isClause_63 : decode b_Md_isClause 63 = .ok (.iconst 2, 1) := by decide +kernel
theorem d_Md_isClause_64 : decode b_Md_isClause 64 = .ok (.goto 4, 3) := by decide +kernel
theorem d_Md_isClause_67 : decode b_Md_isClause 67 = .ok (.iconst (-1), 1) := by decide +kernel
theorem d_Md_isClause_68 : decode b_Md_isClause 68 = .ok (.istore_n 2, 1) := by decide +kernel
theorem d_Md_isClause_69 : decode b_Md_isClause 69 = .ok (.iload_n 2, 1) := by decide +kernel
theorem d_Md_isClause_70 : decode b_Md_isClause 70 = .ok (.ifCond .ne 12, 3) := by decide +kernel
theorem d_Md_isClause_73 : decode b_Md_isClause 73 = .ok (.aload_n 0, 1) := by decide +kernel
theorem d_Md_isClause_74 : decode b_Md_isClause 74 = .ok (.ldc 205, 2) := by decide +kernel
theorem d_Md_isClause_76 : decode b_Md_isClause 76 = .ok (.invokevirtual 207, 3) := by decide +kernel
theorem d_Md_isClause_79 : decode b_Md_isClause 79 = .ok (.goto 36, 3) := by decide +kernel
theorem d_Md_isClause_82 : decode b_Md_isClause 82 = .ok (.iload_n 2, 1) := by decide +kernel
theorem d_Md_isClause_83 : decode b_Md_isClause 83 = .ok (.iconst 1, 1) := by decide +kernel
theorem d_Md_isClause_84 : decode b_Md_isClause 84 = .ok (.if_icmp .ne 12, 3) := by decide +kernel
theorem d_Md_isClause_87 : decode b_Md_isClause 87 = .ok (.aload_n 0, 1) := by decide +kernel
theorem d_Md_isClause_88 : decode b_Md_isClause 88 = .ok (.ldc 211, 2) := by decide +kernel
theorem d_Md_isClause_90 : decode b_Md_isClause 90 = .ok (.invokevirtual 207, 3) := by decide +kernel
theorem d_Md_isClause_93 : decode b_Md_isClause 93 = .ok (.goto 22, 3) := by decide +kernel
theorem d_Md_isClause_96 : decode b_Md_isClause 96 = .ok (.iload_n 2, 1) := by decide +kernel
theorem d_Md_isClause_97 : decode b_Md_isClause 97 = .ok (.iconst 2, 1) := by decide +kernel
theorem d_Md_isClause_98 : decode b_Md_isClause 98 = .ok (.if_icmp .ne 16, 3) := by decide +kernel
theorem d_Md_isClause_101 : decode b_Md_isClause 101 = .ok (.aload_n 0, 1) := by decide +kernel
theorem d_Md_isClause_102 : decode b_Md_isClause 102 = .ok (.ldc 213, 2) := by decide +kernel
theorem d_Md_isClause_104 : decode b_Md_isClause 104 = .ok (.invokevirtual 207, 3) := by decide +kernel
theorem d_Md_isClause_107 : decode b_Md_isClause 107 = .ok (.ifCond .eq 7, 3) := by decide +kernel
theorem d_Md_isClause_110 : decode b_Md_isClause 110 = .ok (.iconst 1, 1) := by decide +kernel
theorem d_Md_isClause_111 : decode b_Md_isClause 111 = .ok (.goto 4, 3) := by decide +kernel
theorem d_Md_isClause_114 : decode b_Md_isClause 114 = .ok (.iconst 0, 1) := by decide +kernel
theorem d_Md_isClause_115 : decode b_Md_isClause 115 = .ok (.istore_n 3, 1) := by decide +kernel
theorem d_Md_isClause_116 : decode b_Md_isClause 116 = .ok (.iload_n 3, 1) := by decide +kernel
theorem d_Md_isClause_117 : decode b_Md_isClause 117 = .ok (.ifCond .eq 10, 3) := by decide +kernel
theorem d_Md_isClause_120 : decode b_Md_isClause 120 = .ok (.aload_n 0, 1) := by decide +kernel
theorem d_Md_isClause_121 : decode b_Md_isClause 121 = .ok (.invokevirtual 181, 3) := by decide +kernel
theorem d_Md_isClause_124 : decode b_Md_isClause 124 = .ok (.ifCond .ne 5, 3) := by decide +kernel
theorem d_Md_isClause_127 : decode b_Md_isClause 127 = .ok (.iconst 0, 1) := by decide +kernel
theorem d_Md_isClause_128 : decode b_Md_isClause 128 = .ok (.ireturn, 1) := by decide +kernel
theorem d_Md_isClause_129 : decode b_Md_isClause 129 = .ok (.aload_n 0, 1) := by decide +kernel
theorem d_Md_isClause_130 : decode b_Md_isClause 130 = .ok (.getfield 42, 3) := by decide +kernel
theorem d_Md_isClause_133 : decode b_Md_isClause 133 = .ok (.iload_n 1, 1) := by decide +kernel
theorem d_Md_isClause_134 : decode b_Md_isClause 134 = .ok (.iload_n 2, 1) := by decide +kernel
theorem d_Md_isClause_135 : decode b_Md_isClause 135 = .ok (.iastore, 1) := by decide +kernel
theorem d_Md_isClause_136 : decode b_Md_isClause 136 = .ok (.aload_n 0, 1) := by decide +kernel
theorem d_Md_isClause_137 : decode b_Md_isClause 137 = .ok (.getfield 45, 3) := by decide +kernel
theorem d_Md_isClause_140 : decode b_Md_isClause 140 = .ok (.iload_n 1, 1) := by decide +kernel
theorem d_Md_isClause_141 : decode b_Md_isClause 141 = .ok (.aload_n 0, 1) := by decide +kernel
theorem d_Md_isClause_142 : decode b_Md_isClause 142 = .ok (.getfield 149, 3) := by decide +kernel
theorem d_Md_isClause_145 : decode b_Md_isClause 145 = .ok (.iastore, 1) := by decide +kernel
theorem d_Md_isClause_146 : decode b_Md_isClause 146 = .ok (.aload_n 0, 1) := by decide +kernel
theorem d_Md_isClause_147 : decode b_Md_isClause 147 = .ok (.getfield 48, 3) := by decide +kernel
theorem d_Md_isClause_150 : decode b_Md_isClause 150 = .ok (.iload_n 1, 1) := by decide +kernel
theorem d_Md_isClause_151 : decode b_Md_isClause 151 = .ok (.aload_n 0, 1) := by decide +kernel
theorem d_Md_isClause_152 : decode b_Md_isClause 152 = .ok (.getfield 171, 3) := by decide +kernel
theorem d_Md_isClause_155 : decode b_Md_isClause 155 = .ok (.iastore, 1) := by decide +kernel
theorem d_Md_isClause_156 : decode b_Md_isClause 156 = .ok (.aload_n 0, 1) := by decide +kernel
theorem d_Md_isClause_157 : decode b_Md_isClause 157 = .ok (.iconst 0, 1) := by decide +kernel
theorem d_Md_isClause_158 : decode b_Md_isClause 158 = .ok (.putfield 187, 3) := by decide +kernel
theorem d_Md_isClause_161 : decode b_Md_isClause 161 = .ok (.iload_n 2, 1) := by decide +kernel
theorem d_Md_isClause_162 : decode b_Md_isClause 162 = .ok (.iconst 2, 1) := by decide +kernel
theorem d_Md_isClause_163 : decode b_Md_isClause 163 = .ok (.if_icmp .ge 21, 3) := by decide +kernel
theorem d_Md_isClause_166 : decode b_Md_isClause 166 = .ok (.aload_n 0, 1) := by decide +kernel
theorem d_Md_isClause_167 : decode b_Md_isClause 167 = .ok (.bipush 32, 2) := by decide +kernel
theorem d_Md_isClause_169 : decode b_Md_isClause 169 = .ok (.invokevirtual 168, 3) := by decide +kernel
theorem d_Md_isClause_172 : decode b_Md_isClause 172 = .ok (.ifCond .eq 10, 3) := by decide +kernel
theorem d_Md_isClause_175 : decode b_Md_isClause 175 = .ok (.aload_n 0, 1) := by decide +kernel
theorem d_Md_isClause_176 : decode b_Md_isClause 176 = .ok (.invokevirtual 196, 3) := by decide +kernel
theorem d_Md_isClause_179 : decode b_Md_isClause 179 = .ok (.ifCond .ne 5, 3) := by decide +kernel
theorem d_Md_isClause_182 : decode b_Md_isClause 182 = .ok (.iconst 0, 1) := by decide +kernel
theorem d_Md_isClause_183 : decode b_Md_isClause 183 = .ok (.ireturn, 1) := by decide +kernel
theorem d_Md_isClause_184 : decode b_Md_isClause 184 = .ok (.aload_n 0, 1) := by decide +kernel
theorem d_Md_isClause_185 : decode b_Md_isClause 185 = .ok (.getfield 51, 3) := by decide +kernel
theorem d_Md_isClause_188 : decode b_Md_isClause 188 = .ok (.iload_n 1, 1) := by decide +kernel
theorem d_Md_isClause_189 : decode b_Md_isClause 189 = .ok (.aload_n 0, 1) := by decide +kernel
theorem d_Md_isClause_190 : decode b_Md_isClause 190 = .ok (.getfield 171, 3) := by decide +kernel
theorem d_Md_isClause_193 : decode b_Md_isClause 193 = .ok (.aload_n 0, 1) := by decide +kernel
theorem d_Md_isClause_194 : decode b_Md_isClause 194 = .ok (.getfield 48, 3) := by decide +kernel
theorem d_Md_isClause_197 : decode b_Md_isClause 197 = .ok (.iload_n 1, 1) := by decide +kernel
theorem d_Md_isClause_198 : decode b_Md_isClause 198 = .ok (.iaload, 1) := by decide +kernel
theorem d_Md_isClause_199 : decode b_Md_isClause 199 = .ok (.isub, 1) := by decide +kernel
theorem d_Md_isClause_200 : decode b_Md_isClause 200 = .ok (.iastore, 1) := by decide +kernel
theorem d_Md_isClause_201 : decode b_Md_isClause 201 = .ok (.iconst 1, 1) := by decide +kernel
theorem d_Md_isClause_202 : decode b_Md_isClause 202 = .ok (.ireturn, 1) := by decide +kernel
theorem d_Md_island_0 : decode b_Md_island 0 = .ok (.aload_n 0, 1) := by decide +kernel
theorem d_Md_island_1 : decode b_Md_island 1 = .ok (.getfield 215, 3) := by decide +kernel
theorem d_Md_island_4 : decode b_Md_island 4 = .ok (.bipush 6, 2) := by decide +kernel
theorem d_Md_island_6 : decode b_Md_island 6 = .ok (.if_icmp .ne 6, 3) := by decide +kernel
theorem d_Md_island_9 : decode b_Md_island 9 = .ok (.bipush (-4), 2) := by decide +kernel
theorem d_Md_island_11 : decode b_Md_island 11 = .ok (.ireturn, 1) := by decide +kernel
theorem d_Md_island_12 : decode b_Md_island 12 = .ok (.aload_n 0, 1) := by decide +kernel
theorem d_Md_island_13 : decode b_Md_island 13 = .ok (.getfield 171, 3) := by decide +kernel
theorem d_Md_island_16 : decode b_Md_island 16 = .ok (.istore_n 1, 1) := by decide +kernel
theorem d_Md_island_17 : decode b_Md_island 17 = .ok (.aload_n 0, 1) := by decide +kernel
theorem d_Md_island_18 : decode b_Md_island 18 = .ok (.iconst 0, 1) := by decide +kernel
theorem d_Md_island_19 : decode b_Md_island 19 = .ok (.putfield 146, 3) := by decide +kernel
theorem d_Md_island_22 : decode b_Md_island 22 = .ok (.iconst 0, 1) := by decide +kernel
theorem d_Md_island_23 : decode b_Md_island 23 = .ok (.istore_n 2, 1) := by decide +kernel
theorem d_Md_island_24 : decode b_Md_island 24 = .ok (.iconst 1, 1) := by decide +kernel
theorem d_Md_island_25 : decode b_Md_island 25 = .ok (.istore_n 3, 1) := by decide +kernel
theorem d_Md_island_26 : decode b_Md_island 26 = .ok (.iconst 0, 1) := by decide +kernel
theorem d_Md_island_27 : decode b_Md_island 27 = .ok (.istore 4, 2) := by decide +kernel
theorem d_Md_island_29 : decode b_Md_island 29 = .ok (.iload_n 3, 1) := by decide +kernel
theorem d_Md_island_30 : decode b_Md_island 30 = .ok (.ifCond .eq 93, 3) := by decide +kernel
theorem d_Md_island_33 : decode b_Md_island 33 = .ok (.iload 4, 2) := by decide +kernel
theorem d_Md_island_35 : decode b_Md_island 35 = .ok (.ifCond .ne 88, 3) := by decide +kernel
theorem d_Md_island_38 : decode b_Md_island 38 = .ok (.iload_n 2, 1) := by decide +kernel
theorem d_Md_island_39 : decode b_Md_island 39 = .ok (.bipush 10, 2) := by decide +kernel
theorem d_Md_island_41 : decode b_Md_island 41 = .ok (.if_icmp .ge 23, 3) := by decide +kernel
theorem d_Md_island_44 : decode b_Md_island 44 = .ok (.aload_n 0, 1) := by decide +kernel
theorem d_Md_island_45 : decode b_Md_island 45 = .ok (.bipush 10, 2) := by decide +kernel
theorem d_Md_island_47 : decode b_Md_island 47 = .ok (.aload_n 0, 1) := by decide +kernel
theorem d_Md_island_48 : decode b_Md_island 48 = .ok (.getfield 215, 3) := by decide +kernel
theorem d_Md_island_51 : decode b_Md_island 51 = .ok (.imul, 1) := by decide +kernel
theorem d_Md_island_52 : decode b_Md_island 52 = .ok (.iload_n 2, 1) := by decide +kernel
theorem d_Md_island_53 : decode b_Md_island 53 = .ok (.iadd, 1) := by decide +kernel
theorem d_Md_island_54 : decode b_Md_island 54 = .ok (.invokevirtual 218, 3) := by decide +kernel
theorem d_Md_island_57 : decode b_Md_island 57 = .ok (.ifCond .eq 7, 3) := by decide +kernel
theorem d_Md_island_60 : decode b_Md_island 60 = .ok (.iconst 1, 1) := by decide +kernel
theorem d_Md_island_61 : decode b_Md_island 61 = .ok (.goto 4, 3) := by decide +kernel
theorem d_Md_island_64 : decode b_Md_island 64 = .ok (.iconst 0, 1) := by decide +kernel
theorem d_Md_island_65 : decode b_Md_island 65 = .ok (.istore_n 3, 1) := by decide +kernel
theorem d_Md_island_66 : decode b_Md_island 66 = .ok (.iload_n 3, 1) := by decide +kernel
theorem d_Md_island_67 : decode b_Md_island 67 = .ok (.ifCond .ne 6, 3) := by decide +kernel
theorem d_Md_island_70 : decode b_Md_island 70 = .ok (.goto (-41), 3) := by decide +kernel
theorem d_Md_island_73 : decode b_Md_island 73 = .ok (.iinc 2 1, 3) := by decide +kernel
theorem d_Md_island_76 : decode b_Md_island 76 = .ok (.aload_n 0, 1) := by decide +kernel
theorem d_Md_island_77 : decode b_Md_island 77 = .ok (.getfield 146, 3) := by decide +kernel
theorem d_Md_island_80 : decode b_Md_island 80 = .ok (.aload_n 0, 1) := by decide +kernel
theorem d_Md_island_81 : decode b_Md_island 81 = .ok (.getfield 143, 3) := by decide +kernel
theorem d_Md_island_84 : decode b_Md_island 84 = .ok (.if_icmp .ne 7, 3) := by decide +kernel
theorem d_Md_island_87 : decode b_Md_island 87 = .ok (.iconst 1, 1) := by decide +kernel
theorem d_Md_island_88 : decode b_Md_island 88 = .ok (.goto 4, 3) := by decide +kernel
theorem d_Md_island_91 : decode b_Md_island 91 = .ok (.iconst 0, 1) := by decide +kernel
theorem d_Md_island_92 : decode b_Md_island 92 = .ok (.istore 4, 2) := by decide +kernel
theorem d_Md_island_94 : decode b_Md_island 94 = .ok (.iload 4, 2) := by decide +kernel
theorem d_Md_island_96 : decode b_Md_island 96 = .ok (.ifCond .ne 18, 3) := by decide +kernel
theorem d_Md_island_99 : decode b_Md_island 99 = .ok (.iload_n 2, 1) := by decide +kernel
theorem d_Md_island_100 : decode b_Md_island 100 = .ok (.bipush 10, 2) := by decide +kernel
theorem d_Md_island_102 : decode b_Md_island 102 = .ok (.if_icmp .ge 16, 3) := by decide +kernel
theorem d_Md_island_105 : decode b_Md_island 105 = .ok (.aload_n 0, 1) := by decide +kernel
theorem d_Md_island_106 : decode b_Md_island 106 = .ok (.bipush 59, 2) := by decide +kernel
theorem d_Md_island_108 : decode b_Md_island 108 = .ok (.invokevirtual 168, 3) := by decide +kernel
theorem d_Md_island_111 : decode b_Md_island 111 = .ok (.ifCond .eq 7, 3) := by decide +kernel
theorem d_Md_island_114 : decode b_Md_island 114 = .ok (.iconst 1, 1) := by decide +kernel
theorem d_Md_island_115 : decode b_Md_island 115 = .ok (.goto 4, 3) := by decide +kernel
theorem d_Md_island_118 : decode b_Md_island 118 = .ok (.iconst 0, 1) := by decide +kernel
theorem d_Md_island_119 : decode b_Md_island 119 = .ok (.istore_n 3, 1) := by decide +kernel
theorem d_Md_island_120 : decode b_Md_island 120 = .ok (.goto (-91), 3) := by decide +kernel
theorem d_Md_island_123 : decode b_Md_island 123 = .ok (.aload_n 0, 1) := by decide +kernel
theorem d_Md_island_124 : decode b_Md_island 124 = .ok (.iconst 0, 1) := by decide +kernel
theorem d_Md_island_125 : decode b_Md_island 125 = .ok (.putfield 143, 3) := by decide +kernel
theorem d_Md_island_128 : decode b_Md_island 128 = .ok (.iload 4, 2) := by decide +kernel
theorem d_Md_island_130 : decode b_Md_island 130 = .ok (.ifCond .ne 16, 3) := by decide +kernel
theorem d_Md_island_133 : decode b_Md_island 133 = .ok (.aload_n 0, 1) := by decide +kernel
theorem d_Md_island_134 : decode b_Md_island 134 = .ok (.iload_n 1, 1) := by decide +kernel
theorem d_Md_island_135 : decode b_Md_island 135 = .ok (.putfield 171, 3) := by decide +kernel
theorem d_Md_island_138 : decode b_Md_island 138 = .ok (.bipush (-10), 2) := by decide +kernel
theorem d_Md_island_140 : decode b_Md_island 140 = .ok (.aload_n 0, 1) := by decide +kernel
theorem d_Md_island_141 : decode b_Md_island 141 = .ok (.getfield 146, 3) := by decide +kernel
theorem d_Md_island_144 : decode b_Md_island 144 = .ok (.isub, 1) := by decide +kernel
theorem d_Md_island_145 : decode b_Md_island 145 = .ok (.ireturn, 1) := by decide +kernel
theorem d_Md_island_146 : decode b_Md_island 146 = .ok (.aload_n 0, 1) := by decide +kernel
theorem d_Md_island_147 : decode b_Md_island 147 = .ok (.getfield 39, 3) := by decide +kernel
theorem d_Md_island_150 : decode b_Md_island 150 = .ok (.aload_n 0, 1) := by decide +kernel
theorem d_Md_island_151 : decode b_Md_island 151 = .ok (.getfield 215, 3) := by decide +kernel
theorem d_Md_island_154 : decode b_Md_island 154 = .ok (.iload_n 2, 1) := by decide +kernel
theorem d_Md_island_155 : decode b_Md_island 155 = .ok (.iastore, 1) := by decide +kernel
theorem d_Md_island_156 : decode b_Md_island 156 = .ok (.aload_n 0, 1) := by decide +kernel
theorem d_Md_island_157 : decode b_Md_island 157 = .ok (.aload_n 0, 1) := by decide +kernel
theorem d_Md_island_158 : decode b_Md_island 158 = .ok (.getfield 215, 3) := by decide +kernel
theorem d_Md_island_161 : decode b_Md_island 161 = .ok (.putfield 113, 3) := by decide +kernel
theorem d_Md_island_164 : decode b_Md_island 164 = .ok (.aload_n 0, 1) := by decide +kernel
theorem d_Md_island_165 : decode b_Md_island 165 = .ok (.dup, 1) := by decide +kernel
theorem d_Md_island_166 : decode b_Md_island 166 = .ok (.getfield 215, 3) := by decide +kernel
theorem d_Md_island_169 : decode b_Md_island 169 = .ok (.dup_x1, 1) := by decide +kernel
theorem d_Md_island_170 : decode b_Md_island 170 = .ok (.iconst 1, 1) := by decide +kernel
theorem d_Md_island_171 : decode b_Md_island 171 = .ok (.iadd, 1) := by decide +kernel
theorem d_Md_island_172 : decode b_Md_island 172 = .ok (.putfield 215, 3) := by decide +kernel
theorem d_Md_island_175 : decode b_Md_island 175 = .ok (.ireturn, 1) := by decide +kernel
theorem d_Md_letterOf_0 : decode b_Md_letterOf 0 = .ok (.iload 4, 2) := by decide +kernel
theorem d_Md_letterOf_2 : decode b_Md_letterOf 2 = .ok (.tableswitch 62 0 4 #[34, 36, 43, 50, 60], 34) := by decide +kernel
theorem d_Md_letterOf_36 : decode b_Md_letterOf 36 = .ok (.iload_n 1, 1) := by decide +kernel
theorem d_Md_letterOf_37 : decode b_Md_letterOf 37 = .ok (.ireturn, 1) := by decide +kernel
theorem d_Md_letterOf_38 : decode b_Md_letterOf 38 = .ok (.aload_n 0, 1) := by decide +kernel
theorem d_Md_letterOf_39 : decode b_Md_letterOf 39 = .ok (.getfield 9, 3) := by decide +kernel
theorem d_Md_letterOf_42 : decode b_Md_letterOf 42 = .ok (.iload_n 1, 1) := by decide +kernel
theorem d_Md_letterOf_43 : decode b_Md_letterOf 43 = .ok (.iaload, 1) := by decide +kernel
theorem d_Md_letterOf_44 : decode b_Md_letterOf 44 = .ok (.ireturn, 1) := by decide +kernel
theorem d_Md_letterOf_45 : decode b_Md_letterOf 45 = .ok (.aload_n 0, 1) := by decide +kernel
theorem d_Md_letterOf_46 : decode b_Md_letterOf 46 = .ok (.getfield 15, 3) := by decide +kernel
theorem d_Md_letterOf_49 : decode b_Md_letterOf 49 = .ok (.iload_n 1, 1) := by decide +kernel
theorem d_Md_letterOf_50 : decode b_Md_letterOf 50 = .ok (.iaload, 1) := by decide +kernel
theorem d_Md_letterOf_51 : decode b_Md_letterOf 51 = .ok (.ireturn, 1) := by decide +kernel
theorem d_Md_letterOf_52 : decode b_Md_letterOf 52 = .ok (.aload_n 0, 1) := by decide +kernel
theorem d_Md_letterOf_53 : decode b_Md_letterOf 53 = .ok (.getfield 18, 3) := by decide +kernel
theorem d_Md_letterOf_56 : decode b_Md_letterOf 56 = .ok (.iload_n 1, 1) := by decide +kernel
theorem d_Md_letterOf_57 : decode b_Md_letterOf 57 = .ok (.iaload, 1) := by decide +kernel
theorem d_Md_letterOf_58 : decode b_Md_letterOf 58 = .ok (.bipush 10, 2) := by decide +kernel
theorem d_Md_letterOf_60 : decode b_Md_letterOf 60 = .ok (.idiv, 1) := by decide +kernel
theorem d_Md_letterOf_61 : decode b_Md_letterOf 61 = .ok (.ireturn, 1) := by decide +kernel
theorem d_Md_letterOf_62 : decode b_Md_letterOf 62 = .ok (.iload_n 2, 1) := by decide +kernel
theorem d_Md_letterOf_63 : decode b_Md_letterOf 63 = .ok (.ireturn, 1) := by decide +kernel
theorem d_Md_letterOf_64 : decode b_Md_letterOf 64 = .ok (.iload_n 3, 1) := by decide +kernel
theorem d_Md_letterOf_65 : decode b_Md_letterOf 65 = .ok (.bipush 10, 2) := by decide +kernel
theorem d_Md_letterOf_67 : decode b_Md_letterOf 67 = .ok (.irem, 1) := by decide +kernel
theorem d_Md_letterOf_68 : decode b_Md_letterOf 68 = .ok (.ireturn, 1) := by decide +kernel
theorem d_Md_isTrue_0 : decode b_Md_isTrue 0 = .ok (.iconst 0, 1) := by decide +kernel
theorem d_Md_isTrue_1 : decode b_Md_isTrue 1 = .ok (.istore 5, 2) := by decide +kernel
theorem d_Md_isTrue_3 : decode b_Md_isTrue 3 = .ok (.aload_n 0, 1) := by decide +kernel
theorem d_Md_isTrue_4 : decode b_Md_isTrue 4 = .ok (.getfield 48, 3) := by decide +kernel
theorem d_Md_isTrue_7 : decode b_Md_isTrue 7 = .ok (.iload 4, 2) := by decide +kernel
theorem d_Md_isTrue_9 : decode b_Md_isTrue 9 = .ok (.iaload, 1) := by decide +kernel
theorem d_Md_isTrue_10 : decode b_Md_isTrue 10 = .ok (.istore 6, 2) := by decide +kernel
theorem d_Md_isTrue_12 : decode b_Md_isTrue 12 = .ok (.iload 6, 2) := by decide +kernel
theorem d_Md_isTrue_14 : decode b_Md_isTrue 14 = .ok (.aload_n 0, 1) := by decide +kernel
theorem d_Md_isTrue_15 : decode b_Md_isTrue 15 = .ok (.getfield 48, 3) := by decide +kernel
theorem d_Md_isTrue_18 : decode b_Md_isTrue 18 = .ok (.iload 4, 2) := by decide +kernel
theorem d_Md_isTrue_20 : decode b_Md_isTrue 20 = .ok (.iaload, 1) := by decide +kernel
theorem d_Md_isTrue_21 : decode b_Md_isTrue 21 = .ok (.aload_n 0, 1) := by decide +kernel
theorem d_Md_isTrue_22 : decode b_Md_isTrue 22 = .ok (.getfield 51, 3) := by decide +kernel
theorem d_Md_isTrue_25 : decode b_Md_isTrue 25 = .ok (.iload 4, 2) := by decide +kernel
theorem d_Md_isTrue_27 : decode b_Md_isTrue 27 = .ok (.iaload, 1) := by decide +kernel
theorem d_Md_isTrue_28 : decode b_Md_isTrue 28 = .ok (.iadd, 1) := by decide +kernel
theorem d_Md_isTrue_29 : decode b_Md_isTrue 29 = .ok (.if_icmp .ge 236, 3) := by decide +kernel
theorem d_Md_isTrue_32 : decode b_Md_isTrue 32 = .ok (.aload_n 0, 1) := by decide +kernel
theorem d_Md_isTrue_33 : decode b_Md_isTrue 33 = .ok (.getfield 54, 3) := by decide +kernel
theorem d_Md_isTrue_36 : decode b_Md_isTrue 36 = .ok (.iload 6, 2) := by decide +kernel
theorem d_Md_isTrue_38 : decode b_Md_isTrue 38 = .ok (.iaload, 1) := by decide +kernel
theorem d_Md_isTrue_39 : decode b_Md_isTrue 39 = .ok (.istore 7, 2) := by decide +kernel
theorem d_Md_isTrue_41 : decode b_Md_isTrue 41 = .ok (.iload 7, 2) := by decide +kernel
theorem d_Md_isTrue_43 : decode b_Md_isTrue 43 = .ok (.iconst 3, 1) := by decide +kernel
theorem d_Md_isTrue_44 : decode b_Md_isTrue 44 = .ok (.if_icmp .lt 106, 3) := by decide +kernel
theorem d_Md_isTrue_47 : decode b_Md_isTrue 47 = .ok (.aload_n 0, 1) := by decide +kernel
theorem d_Md_isTrue_48 : decode b_Md_isTrue 48 = .ok (.iload_n 1, 1) := by decide +kernel
theorem d_Md_isTrue_49 : decode b_Md_isTrue 49 = .ok (.iload_n 2, 1) := by decide +kernel
theorem d_Md_isTrue_50 : decode b_Md_isTrue 50 = .ok (.iload_n 3, 1) := by decide +kernel
theorem d_Md_isTrue_51 : decode b_Md_isTrue 51 = .ok (.iload 7, 2) := by decide +kernel
theorem d_Md_isTrue_53 : decode b_Md_isTrue 53 = .ok (.iconst 3, 1) := by decide +kernel
theorem d_Md_isTrue_54 : decode b_Md_isTrue 54 = .ok (.isub, 1) := by decide +kernel
theorem d_Md_isTrue_55 : decode b_Md_isTrue 55 = .ok (.sipush 300, 3) := by decide +kernel
theorem d_Md_isTrue_58 : decode b_Md_isTrue 58 = .ok (.idiv, 1) := by decide +kernel
theorem d_Md_isTrue_59 : decode b_Md_isTrue 59 = .ok (.invokevirtual 221, 3) := by decide +kernel
theorem d_Md_isTrue_62 : decode b_Md_isTrue 62 = .ok (.istore 8, 2) := by decide +kernel
theorem d_Md_isTrue_64 : decode b_Md_isTrue 64 = .ok (.iload 7, 2) := by decide +kernel
theorem d_Md_isTrue_66 : decode b_Md_isTrue 66 = .ok (.iconst 3, 1) := by decide +kernel
theorem d_Md_isTrue_67 : decode b_Md_isTrue 67 = .ok (.isub, 1) := by decide +kernel
theorem d_Md_isTrue_68 : decode b_Md_isTrue 68 = .ok (.bipush 100, 2) := by decide +kernel
theorem d_Md_isTrue_70 : decode b_Md_isTrue 70 = .ok (.irem, 1) := by decide +kernel
theorem d_Md_isTrue_71 : decode b_Md_isTrue 71 = .ok (.istore 9, 2) := by decide +kernel
theorem d_Md_isTrue_73 : decode b_Md_isTrue 73 = .ok (.iload 7, 2) := by decide +kernel
theorem d_Md_isTrue_75 : decode b_Md_isTrue 75 = .ok (.iconst 3, 1) := by decide +kernel
theorem d_Md_isTrue_76 : decode b_Md_isTrue 76 = .ok (.isub, 1) := by decide +kernel
theorem d_Md_isTrue_77 : decode b_Md_isTrue 77 = .ok (.bipush 100, 2) := by decide +kernel
theorem d_Md_isTrue_79 : decode b_Md_isTrue 79 = .ok (.idiv, 1) := by decide +kernel
theorem d_Md_isTrue_80 : decode b_Md_isTrue 80 = .ok (.iconst 3, 1) := by decide +kernel
theorem d_Md_isTrue_81 : decode b_Md_isTrue 81 = .ok (.irem, 1) := by decide +kernel
theorem d_Md_isTrue_82 : decode b_Md_isTrue 82 = .ok (.istore 10, 2) := by decide +kernel
theorem d_Md_isTrue_84 : decode b_Md_isTrue 84 = .ok (.aload_n 0, 1) := by decide +kernel
theorem d_Md_isTrue_85 : decode b_Md_isTrue 85 = .ok (.getfield 57, 3) := by decide +kernel
theorem d_Md_isTrue_88 : decode b_Md_isTrue 88 = .ok (.iload 5, 2) := by decide +kernel
theorem d_Md_isTrue_90 : decode b_Md_isTrue 90 = .ok (.iinc 5 1, 3) := by decide +kernel
theorem d_Md_isTrue_93 : decode b_Md_isTrue 93 = .ok (.iload 10, 2) := by decide +kernel
theorem d_Md_isTrue_95 : decode b_Md_isTrue 95 = .ok (.ifCond .ne 18, 3) := by decide +kernel
theorem d_Md_isTrue_98 : decode b_Md_isTrue 98 = .ok (.iload 8, 2) := by decide +kernel
theorem d_Md_isTrue_100 : decode b_Md_isTrue 100 = .ok (.iload 9, 2) := by decide +kernel
theorem d_Md_isTrue_102 : decode b_Md_isTrue 102 = .ok (.if_icmp .ge 7, 3) := by decide +kernel
theorem d_Md_isTrue_105 : decode b_Md_isTrue 105 = .ok (.iconst 1, 1) := by decide +kernel
theorem d_Md_isTrue_106 : decode b_Md_isTrue 106 = .ok (.goto 40, 3) := by decide +kernel
theorem d_Md_isTrue_109 : decode b_Md_isTrue 109 = .ok (.iconst 0, 1) := by decide +kernel
theorem d_Md_isTrue_110 : decode b_Md_isTrue 110 = .ok (.goto 36, 3) := by decide +kernel
theorem d_Md_isTrue_113 : decode b_Md_isTrue 113 = .ok (.iload 10, 2) := by decide +kernel
theorem d_Md_isTrue_115 : decode b_Md_isTrue 115 = .ok (.iconst 1, 1) := by decide +kernel
theorem d_Md_isTrue_116 : decode b_Md_isTrue 116 = .ok (.if_icmp .ne 18, 3) := by decide +kernel
theorem d_Md_isTrue_119 : decode b_Md_isTrue 119 = .ok (.iload 8, 2) := by decide +kernel
theorem d_Md_isTrue_121 : decode b_Md_isTrue 121 = .ok (.iload 9, 2) := by decide +kernel
theorem d_Md_isTrue_123 : decode b_Md_isTrue 123 = .ok (.if_icmp .ne 7, 3) := by decide +kernel
theorem d_Md_isTrue_126 : decode b_Md_isTrue 126 = .ok (.iconst 1, 1) := by decide +kernel
theorem d_Md_isTrue_127 : decode b_Md_isTrue 127 = .ok (.goto 19, 3) := by decide +kernel
theorem d_Md_isTrue_130 : decode b_Md_isTrue 130 = .ok (.iconst 0, 1) := by decide +kernel
theorem d_Md_isTrue_131 : decode b_Md_isTrue 131 = .ok (.goto 15, 3) := by decide +kernel
theorem d_Md_isTrue_134 : decode b_Md_isTrue 134 = .ok (.iload 8, 2) := by decide +kernel
theorem d_Md_isTrue_136 : decode b_Md_isTrue 136 = .ok (.iload 9, 2) := by decide +kernel
theorem d_Md_isTrue_138 : decode b_Md_isTrue 138 = .ok (.if_icmp .le 7, 3) := by decide +kernel
theorem d_Md_isTrue_141 : decode b_Md_isTrue 141 = .ok (.iconst 1, 1) := by decide +kernel
theorem d_Md_isTrue_142 : decode b_Md_isTrue 142 = .ok (.goto 4, 3) := by decide +kernel
theorem d_Md_isTrue_145 : decode b_Md_isTrue 145 = .ok (.iconst 0, 1) := by decide +kernel
theorem d_Md_isTrue_146 : decode b_Md_isTrue 146 = .ok (.bastore, 1) := by decide +kernel
theorem d_Md_isTrue_147 : decode b_Md_isTrue 147 = .ok (.goto 112, 3) := by decide +kernel
theorem d_Md_isTrue_150 : decode b_Md_isTrue 150 = .ok (.iload 7, 2) := by decide +kernel
theorem d_Md_isTrue_152 : decode b_Md_isTrue 152 = .ok (.ifCond .ne 32, 3) := by decide +kernel
theorem d_Md_isTrue_155 : decode b_Md_isTrue 155 = .ok (.aload_n 0, 1) := by decide +kernel
theorem d_Md_isTrue_156 : decode b_Md_isTrue 156 = .ok (.getfield 57, 3) := by decide +kernel
theorem d_Md_isTrue_159 : decode b_Md_isTrue 159 = .ok (.iload 5, 2) := by decide +kernel
theorem d_Md_isTrue_161 : decode b_Md_isTrue 161 = .ok (.iconst 1, 1) := by decide +kernel
theorem d_Md_isTrue_162 : decode b_Md_isTrue 162 = .ok (.isub, 1) := by decide +kernel
theorem d_Md_isTrue_163 : decode b_Md_isTrue 163 = .ok (.aload_n 0, 1) := by decide +kernel
theorem d_Md_isTrue_164 : decode b_Md_isTrue 164 = .ok (.getfield 57, 3) := by decide +kernel
theorem d_Md_isTrue_167 : decode b_Md_isTrue 167 = .ok (.iload 5, 2) := by decide +kernel
theorem d_Md_isTrue_169 : decode b_Md_isTrue 169 = .ok (.iconst 1, 1) := by decide +kernel
theorem d_Md_isTrue_170 : decode b_Md_isTrue 170 = .ok (.isub, 1) := by decide +kernel
theorem d_Md_isTrue_171 : decode b_Md_isTrue 171 = .ok (.baload, 1) := by decide +kernel
theorem d_Md_isTrue_172 : decode b_Md_isTrue 172 = .ok (.ifCond .ne 7, 3) := by decide +kernel
theorem d_Md_isTrue_175 : decode b_Md_isTrue 175 = .ok (.iconst 1, 1) := by decide +kernel
theorem d_Md_isTrue_176 : decode b_Md_isTrue 176 = .ok (.goto 4, 3) := by decide +kernel
theorem d_Md_isTrue_179 : decode b_Md_isTrue 179 = .ok (.iconst 0, 1) := by decide +kernel
theorem d_Md_isTrue_180 : decode b_Md_isTrue 180 = .ok (.bastore, 1) := by decide +kernel
theorem d_Md_isTrue_181 : decode b_Md_isTrue 181 = .ok (.goto 78, 3) := by decide +kernel
theorem d_Md_isTrue_184 : decode b_Md_isTrue 184 = .ok (.iinc 5 (-1), 3) := by decide +kernel
theorem d_Md_isTrue_187 : decode b_Md_isTrue 187 = .ok (.aload_n 0, 1) := by decide +kernel
theorem d_Md_isTrue_188 : decode b_Md_isTrue 188 = .ok (.getfield 57, 3) := by decide +kernel
theorem d_Md_isTrue_191 : decode b_Md_isTrue 191 = .ok (.iload 5, 2) := by decide +kernel
theorem d_Md_isTrue_193 : decode b_Md_isTrue 193 = .ok (.iconst 1, 1) := by decide +kernel
theorem d_Md_isTrue_194 : decode b_Md_isTrue 194 = .ok (.isub, 1) := by decide +kernel
theorem d_Md_isTrue_195 : decode b_Md_isTrue 195 = .ok (.iload 7, 2) := by decide +kernel
theorem d_Md_isTrue_197 : decode b_Md_isTrue 197 = .ok (.iconst 1, 1) := by decide +kernel
theorem d_Md_isTrue_198 : decode b_Md_isTrue 198 = .ok (.if_icmp .ne 33, 3) := by decide +kernel
theorem d_Md_isTrue_201 : decode b_Md_isTrue 201 = .ok (.aload_n 0, 1) := by decide +kernel
theorem d_Md_isTrue_202 : decode b_Md_isTrue 202 = .ok (.getfield 57, 3) := by decide +kernel
theorem d_Md_isTrue_205 : decode b_Md_isTrue 205 = .ok (.iload 5, 2) := by decide +kernel
theorem d_Md_isTrue_207 : decode b_Md_isTrue 207 = .ok (.iconst 1, 1) := by decide +kernel
theorem d_Md_isTrue_208 : decode b_Md_isTrue 208 = .ok (.isub, 1) := by decide +kernel
theorem d_Md_isTrue_209 : decode b_Md_isTrue 209 = .ok (.baload, 1) := by decide +kernel
theorem d_Md_isTrue_210 : decode b_Md_isTrue 210 = .ok (.ifCond .eq 17, 3) := by decide +kernel
theorem d_Md_isTrue_213 : decode b_Md_isTrue 213 = .ok (.aload_n 0, 1) := by decide +kernel
theorem d_Md_isTrue_214 : decode b_Md_isTrue 214 = .ok (.getfield 57, 3) := by decide +kernel
theorem d_Md_isTrue_217 : decode b_Md_isTrue 217 = .ok (.iload 5, 2) := by decide +kernel
theorem d_Md_isTrue_219 : decode b_Md_isTrue 219 = .ok (.baload, 1) := by decide +kernel
theorem d_Md_isTrue_220 : decode b_Md_isTrue 220 = .ok (.ifCond .eq 7, 3) := by decide +kernel
theorem d_Md_isTrue_223 : decode b_Md_isTrue 223 = .ok (.iconst 1, 1) := by decide +kernel
theorem d_Md_isTrue_224 : decode b_Md_isTrue 224 = .ok (.goto 34, 3) := by decide +kernel
theorem d_Md_isTrue_227 : decode b_Md_isTrue 227 = .ok (.iconst 0, 1) := by decide +kernel
theorem d_Md_isTrue_228 : decode b_Md_isTrue 228 = .ok (.goto 30, 3) := by decide +kernel
theorem d_Md_isTrue_231 : decode b_Md_isTrue 231 = .ok (.aload_n 0, 1) := by decide +kernel
theorem d_Md_isTrue_232 : decode b_Md_isTrue 232 = .ok (.getfield 57, 3) := by decide +kernel
theorem d_Md_isTrue_235 : decode b_Md_isTrue 235 = .ok (.iload 5, 2) := by decide +kernel
theorem d_Md_isTrue_237 : decode b_Md_isTrue 237 = .ok (.iconst 1, 1) := by decide +kernel
theorem d_Md_isTrue_238 : decode b_Md_isTrue 238 = .ok (.isub, 1) := by decide +kernel
theorem d_Md_isTrue_239 : decode b_Md_isTrue 239 = .ok (.baload, 1) := by decide +kernel
theorem d_Md_isTrue_240 : decode b_Md_isTrue 240 = .ok (.ifCond .ne 13, 3) := by decide +kernel
theorem d_Md_isTrue_243 : decode b_Md_isTrue 243 = .ok (.aload_n 0, 1) := by decide +kernel
theorem d_Md_isTrue_244 : decode b_Md_isTrue 244 = .ok (.getfield 57, 3) := by decide +kernel
theorem d_Md_isTrue_247 : decode b_Md_isTrue 247 = .ok (.iload 5, 2) := by decide +kernel
theorem d_Md_isTrue_249 : decode b_Md_isTrue 249 = .ok (.baload, 1) := by decide +kernel
theorem d_Md_isTrue_250 : decode b_Md_isTrue 250 = .ok (.ifCond .eq 7, 3) := by decide +kernel
theorem d_Md_isTrue_253 : decode b_Md_isTrue 253 = .ok (.iconst 1, 1) := by decide +kernel
theorem d_Md_isTrue_254 : decode b_Md_isTrue 254 = .ok (.goto 4, 3) := by decide +kernel
theorem d_Md_isTrue_257 : decode b_Md_isTrue 257 = .ok (.iconst 0, 1) := by decide +kernel
theorem d_Md_isTrue_258 : decode b_Md_isTrue 258 = .ok (.bastore, 1) := by decide +kernel
theorem d_Md_isTrue_259 : decode b_Md_isTrue 259 = .ok (.iinc 6 1, 3) := by decide +kernel
theorem d_Md_isTrue_262 : decode b_Md_isTrue 262 = .ok (.goto (-250), 3) := by decide +kernel
theorem d_Md_isTrue_265 : decode b_Md_isTrue 265 = .ok (.aload_n 0, 1) := by decide +kernel
theorem d_Md_isTrue_266 : decode b_Md_isTrue 266 = .ok (.getfield 57, 3) := by decide +kernel
theorem d_Md_isTrue_269 : decode b_Md_isTrue 269 = .ok (.iconst 0, 1) := by decide +kernel
theorem d_Md_isTrue_270 : decode b_Md_isTrue 270 = .ok (.baload, 1) := by decide +kernel
theorem d_Md_isTrue_271 : decode b_Md_isTrue 271 = .ok (.ireturn, 1) := by decide +kernel
theorem d_Md_sum_0 : decode b_Md_sum 0 = .ok (.aload_n 0, 1) := by decide +kernel
theorem d_Md_sum_1 : decode b_Md_sum 1 = .ok (.getfield 18, 3) := by decide +kernel
theorem d_Md_sum_4 : decode b_Md_sum 4 = .ok (.iload_n 1, 1) := by decide +kernel
theorem d_Md_sum_5 : decode b_Md_sum 5 = .ok (.iaload, 1) := by decide +kernel
theorem d_Md_sum_6 : decode b_Md_sum 6 = .ok (.istore 4, 2) := by decide +kernel
theorem d_Md_sum_8 : decode b_Md_sum 8 = .ok (.iconst 0, 1) := by decide +kernel
theorem d_Md_sum_9 : decode b_Md_sum 9 = .ok (.istore 5, 2) := by decide +kernel
theorem d_Md_sum_11 : decode b_Md_sum 11 = .ok (.aload_n 0, 1) := by decide +kernel
theorem d_Md_sum_12 : decode b_Md_sum 12 = .ok (.getfield 113, 3) := by decide +kernel
theorem d_Md_sum_15 : decode b_Md_sum 15 = .ok (.iconst (-1), 1) := by decide +kernel
theorem d_Md_sum_16 : decode b_Md_sum 16 = .ok (.if_icmp .eq 91, 3) := by decide +kernel
theorem d_Md_sum_19 : decode b_Md_sum 19 = .ok (.iload 5, 2) := by decide +kernel
theorem d_Md_sum_21 : decode b_Md_sum 21 = .ok (.aload_n 0, 1) := by decide +kernel
theorem d_Md_sum_22 : decode b_Md_sum 22 = .ok (.getfield 39, 3) := by decide +kernel
theorem d_Md_sum_25 : decode b_Md_sum 25 = .ok (.aload_n 0, 1) := by decide +kernel
theorem d_Md_sum_26 : decode b_Md_sum 26 = .ok (.getfield 113, 3) := by decide +kernel
theorem d_Md_sum_29 : decode b_Md_sum 29 = .ok (.iaload, 1) := by decide +kernel
theorem d_Md_sum_30 : decode b_Md_sum 30 = .ok (.if_icmp .ge 77, 3) := by decide +kernel
theorem d_Md_sum_33 : decode b_Md_sum 33 = .ok (.bipush 10, 2) := by decide +kernel
theorem d_Md_sum_35 : decode b_Md_sum 35 = .ok (.aload_n 0, 1) := by decide +kernel
theorem d_Md_sum_36 : decode b_Md_sum 36 = .ok (.getfield 113, 3) := by decide +kernel
theorem d_Md_sum_39 : decode b_Md_sum 39 = .ok (.imul, 1) := by decide +kernel
theorem d_Md_sum_40 : decode b_Md_sum 40 = .ok (.iload 5, 2) := by decide +kernel
theorem d_Md_sum_42 : decode b_Md_sum 42 = .ok (.iadd, 1) := by decide +kernel
theorem d_Md_sum_43 : decode b_Md_sum 43 = .ok (.istore 6, 2) := by decide +kernel
theorem d_Md_sum_45 : decode b_Md_sum 45 = .ok (.aload_n 0, 1) := by decide +kernel
theorem d_Md_sum_46 : decode b_Md_sum 46 = .ok (.getfield 42, 3) := by decide +kernel
theorem d_Md_sum_49 : decode b_Md_sum 49 = .ok (.iload 6, 2) := by decide +kernel
theorem d_Md_sum_51 : decode b_Md_sum 51 = .ok (.iaload, 1) := by decide +kernel
theorem d_Md_sum_52 : decode b_Md_sum 52 = .ok (.iconst 2, 1) := by decide +kernel
theorem d_Md_sum_53 : decode b_Md_sum 53 = .ok (.if_icmp .ge 48, 3) := by decide +kernel
theorem d_Md_sum_56 : decode b_Md_sum 56 = .ok (.aload_n 0, 1) := by decide +kernel
theorem d_Md_sum_57 : decode b_Md_sum 57 = .ok (.iload_n 1, 1) := by decide +kernel
theorem d_Md_sum_58 : decode b_Md_sum 58 = .ok (.iload_n 3, 1) := by decide +kernel
theorem d_Md_sum_59 : decode b_Md_sum 59 = .ok (.iload_n 2, 1) := by decide +kernel
theorem d_Md_sum_60 : decode b_Md_sum 60 = .ok (.iload 6, 2) := by decide +kernel
theorem d_Md_sum_62 : decode b_Md_sum 62 = .ok (.invokevirtual 225, 3) := by decide +kernel
theorem d_Md_sum_65 : decode b_Md_sum 65 = .ok (.ifCond .eq 36, 3) := by decide +kernel
theorem d_Md_sum_68 : decode b_Md_sum 68 = .ok (.iload 4, 2) := by decide +kernel
theorem d_Md_sum_70 : decode b_Md_sum 70 = .ok (.aload_n 0, 1) := by decide +kernel
theorem d_Md_sum_71 : decode b_Md_sum 71 = .ok (.getfield 42, 3) := by decide +kernel
theorem d_Md_sum_74 : decode b_Md_sum 74 = .ok (.iload 6, 2) := by decide +kernel
theorem d_Md_sum_76 : decode b_Md_sum 76 = .ok (.iaload, 1) := by decide +kernel
theorem d_Md_sum_77 : decode b_Md_sum 77 = .ok (.ifCond .ne 13, 3) := by decide +kernel
theorem d_Md_sum_80 : decode b_Md_sum 80 = .ok (.aload_n 0, 1) := by decide +kernel
theorem d_Md_sum_81 : decode b_Md_sum 81 = .ok (.getfield 45, 3) := by decide +kernel
theorem d_Md_sum_84 : decode b_Md_sum 84 = .ok (.iload 6, 2) := by decide +kernel
theorem d_Md_sum_86 : decode b_Md_sum 86 = .ok (.iaload, 1) := by decide +kernel
theorem d_Md_sum_87 : decode b_Md_sum 87 = .ok (.goto 11, 3) := by decide +kernel
theorem d_Md_sum_90 : decode b_Md_sum 90 = .ok (.aload_n 0, 1) := by decide +kernel
theorem d_Md_sum_91 : decode b_Md_sum 91 = .ok (.getfield 45, 3) := by decide +kernel
theorem d_Md_sum_94 : decode b_Md_sum 94 = .ok (.iload 6, 2) := by decide +kernel
theorem d_Md_sum_96 : decode b_Md_sum 96 = .ok (.iaload, 1) := by decide +kernel
theorem d_Md_sum_97 : decode b_Md_sum 97 = .ok (.ineg, 1) := by decide +kernel
theorem d_Md_sum_98 : decode b_Md_sum 98 = .ok (.iadd, 1) := by decide +kernel
theorem d_Md_sum_99 : decode b_Md_sum 99 = .ok (.istore 4, 2) := by decide +kernel
theorem d_Md_sum_101 : decode b_Md_sum 101 = .ok (.iinc 5 1, 3) := by decide +kernel
theorem d_Md_sum_104 : decode b_Md_sum 104 = .ok (.goto (-93), 3) := by decide +kernel
theorem d_Md_sum_107 : decode b_Md_sum 107 = .ok (.iload 4, 2) := by decide +kernel
theorem d_Md_sum_109 : decode b_Md_sum 109 = .ok (.ireturn, 1) := by decide +kernel
theorem d_Md_lostBy_0 : decode b_Md_lostBy 0 = .ok (.iconst 0, 1) := by decide +kernel
theorem d_Md_lostBy_1 : decode b_Md_lostBy 1 = .ok (.istore_n 1, 1) := by decide +kernel
theorem d_Md_lostBy_2 : decode b_Md_lostBy 2 = .ok (.iconst 0, 1) := by decide +kernel
theorem d_Md_lostBy_3 : decode b_Md_lostBy 3 = .ok (.istore_n 2, 1) := by decide +kernel
theorem d_Md_lostBy_4 : decode b_Md_lostBy 4 = .ok (.aload_n 0, 1) := by decide +kernel
theorem d_Md_lostBy_5 : decode b_Md_lostBy 5 = .ok (.getfield 113, 3) := by decide +kernel
theorem d_Md_lostBy_8 : decode b_Md_lostBy 8 = .ok (.iconst (-1), 1) := by decide +kernel
theorem d_Md_lostBy_9 : decode b_Md_lostBy 9 = .ok (.if_icmp .eq 55, 3) := by decide +kernel
theorem d_Md_lostBy_12 : decode b_Md_lostBy 12 = .ok (.iload_n 2, 1) := by decide +kernel
theorem d_Md_lostBy_13 : decode b_Md_lostBy 13 = .ok (.aload_n 0, 1) := by decide +kernel
theorem d_Md_lostBy_14 : decode b_Md_lostBy 14 = .ok (.getfield 39, 3) := by decide +kernel
theorem d_Md_lostBy_17 : decode b_Md_lostBy 17 = .ok (.aload_n 0, 1) := by decide +kernel
theorem d_Md_lostBy_18 : decode b_Md_lostBy 18 = .ok (.getfield 113, 3) := by decide +kernel
theorem d_Md_lostBy_21 : decode b_Md_lostBy 21 = .ok (.iaload, 1) := by decide +kernel
theorem d_Md_lostBy_22 : decode b_Md_lostBy 22 = .ok (.if_icmp .ge 42, 3) := by decide +kernel
theorem d_Md_lostBy_25 : decode b_Md_lostBy 25 = .ok (.aload_n 0, 1) := by decide +kernel
theorem d_Md_lostBy_26 : decode b_Md_lostBy 26 = .ok (.getfield 42, 3) := by decide +kernel
theorem d_Md_lostBy_29 : decode b_Md_lostBy 29 = .ok (.bipush 10, 2) := by decide +kernel
theorem d_Md_lostBy_31 : decode b_Md_lostBy 31 = .ok (.aload_n 0, 1) := by decide +kernel
theorem d_Md_lostBy_32 : decode b_Md_lostBy 32 = .ok (.getfield 113, 3) := by decide +kernel
theorem d_Md_lostBy_35 : decode b_Md_lostBy 35 = .ok (.imul, 1) := by decide +kernel
theorem d_Md_lostBy_36 : decode b_Md_lostBy 36 = .ok (.iload_n 2, 1) := by decide +kernel
theorem d_Md_lostBy_37 : decode b_Md_lostBy 37 = .ok (.iadd, 1) := by decide +kernel
theorem d_Md_lostBy_38 : decode b_Md_lostBy 38 = .ok (.iaload, 1) := by decide +kernel
theorem d_Md_lostBy_39 : decode b_Md_lostBy 39 = .ok (.iconst 2, 1) := by decide +kernel
theorem d_Md_lostBy_40 : decode b_Md_lostBy 40 = .ok (.if_icmp .ne 18, 3) := by decide +kernel
theorem d_Md_lostBy_43 : decode b_Md_lostBy 43 = .ok (.aload_n 0, 1) := by decide +kernel
theorem d_Md_lostBy_44 : decode b_Md_lostBy 44 = .ok (.getfield 45, 3) := by decide +kernel
theorem d_Md_lostBy_47 : decode b_Md_lostBy 47 = .ok (.bipush 10, 2) := by decide +kernel
theorem d_Md_lostBy_49 : decode b_Md_lostBy 49 = .ok (.aload_n 0, 1) := by decide +kernel
theorem d_Md_lostBy_50 : decode b_Md_lostBy 50 = .ok (.getfield 113, 3) := by decide +kernel
theorem d_Md_lostBy_53 : decode b_Md_lostBy 53 = .ok (.imul, 1) := by decide +kernel
theorem d_Md_lostBy_54 : decode b_Md_lostBy 54 = .ok (.iload_n 2, 1) := by decide +kernel
theorem d_Md_lostBy_55 : decode b_Md_lostBy 55 = .ok (.iadd, 1) := by decide +kernel
theorem d_Md_lostBy_56 : decode b_Md_lostBy 56 = .ok (.iaload, 1) := by decide +kernel
theorem d_Md_lostBy_57 : decode b_Md_lostBy 57 = .ok (.istore_n 1, 1) := by decide +kernel
theorem d_Md_lostBy_58 : decode b_Md_lostBy 58 = .ok (.iinc 2 1, 3) := by decide +kernel
theorem d_Md_lostBy_61 : decode b_Md_lostBy 61 = .ok (.goto (-57), 3) := by decide +kernel
theorem d_Md_lostBy_64 : decode b_Md_lostBy 64 = .ok (.iload_n 1, 1) := by decide +kernel
theorem d_Md_lostBy_65 : decode b_Md_lostBy 65 = .ok (.ireturn, 1) := by decide +kernel
theorem d_Md_isLost_0 : decode b_Md_isLost 0 = .ok (.aload_n 0, 1) := by decide +kernel
theorem d_Md_isLost_1 : decode b_Md_isLost 1 = .ok (.invokevirtual 229, 3) := by decide +kernel
theorem d_Md_isLost_4 : decode b_Md_isLost 4 = .ok (.istore_n 2, 1) := by decide +kernel
theorem d_Md_isLost_5 : decode b_Md_isLost 5 = .ok (.iload_n 2, 1) := by decide +kernel
theorem d_Md_isLost_6 : decode b_Md_isLost 6 = .ok (.iconst 1, 1) := by decide +kernel
theorem d_Md_isLost_7 : decode b_Md_isLost 7 = .ok (.if_icmp .le 15, 3) := by decide +kernel
theorem d_Md_isLost_10 : decode b_Md_isLost 10 = .ok (.iload_n 1, 1) := by decide +kernel
theorem d_Md_isLost_11 : decode b_Md_isLost 11 = .ok (.iconst 1, 1) := by decide +kernel
theorem d_Md_isLost_12 : decode b_Md_isLost 12 = .ok (.iadd, 1) := by decide +kernel
theorem d_Md_isLost_13 : decode b_Md_isLost 13 = .ok (.iload_n 2, 1) := by decide +kernel
theorem d_Md_isLost_14 : decode b_Md_isLost 14 = .ok (.irem, 1) := by decide +kernel
theorem d_Md_isLost_15 : decode b_Md_isLost 15 = .ok (.ifCond .ne 7, 3) := by decide +kernel
theorem d_Md_isLost_18 : decode b_Md_isLost 18 = .ok (.iconst 1, 1) := by decide +kernel
theorem d_Md_isLost_19 : decode b_Md_isLost 19 = .ok (.goto 4, 3) := by decide +kernel
theorem d_Md_isLost_22 : decode b_Md_isLost 22 = .ok (.iconst 0, 1) := by decide +kernel
theorem d_Md_isLost_23 : decode b_Md_isLost 23 = .ok (.ireturn, 1) := by decide +kernel
theorem d_Md_pain_0 : decode b_Md_pain 0 = .ok (.aload_n 0, 1) := by decide +kernel
theorem d_Md_pain_1 : decode b_Md_pain 1 = .ok (.iload_n 1, 1) := by decide +kernel
theorem d_Md_pain_2 : decode b_Md_pain 2 = .ok (.iload_n 2, 1) := by decide +kernel
theorem d_Md_pain_3 : decode b_Md_pain 3 = .ok (.iload_n 3, 1) := by decide +kernel
theorem d_Md_pain_4 : decode b_Md_pain 4 = .ok (.invokevirtual 232, 3) := by decide +kernel
theorem d_Md_pain_7 : decode b_Md_pain 7 = .ok (.istore 4, 2) := by decide +kernel
theorem d_Md_pain_9 : decode b_Md_pain 9 = .ok (.aload_n 0, 1) := by decide +kernel
theorem d_Md_pain_10 : decode b_Md_pain 10 = .ok (.getfield 9, 3) := by decide +kernel
theorem d_Md_pain_13 : decode b_Md_pain 13 = .ok (.iload_n 1, 1) := by decide +kernel
theorem d_Md_pain_14 : decode b_Md_pain 14 = .ok (.iaload, 1) := by decide +kernel
theorem d_Md_pain_15 : decode b_Md_pain 15 = .ok (.tableswitch 145 1 6 #[37, 46, 55, 109, 125, 55], 37) := by decide +kernel
theorem d_Md_pain_52 : decode b_Md_pain 52 = .ok (.iload 4, 2) := by decide +kernel
theorem d_Md_pain_54 : decode b_Md_pain 54 = .ok (.iload_n 3, 1) := by decide +kernel
theorem d_Md_pain_55 : decode b_Md_pain 55 = .ok (.iadd, 1) := by decide +kernel
theorem d_Md_pain_56 : decode b_Md_pain 56 = .ok (.istore 4, 2) := by decide +kernel
theorem d_Md_pain_58 : decode b_Md_pain 58 = .ok (.goto 102, 3) := by decide +kernel
theorem d_Md_pain_61 : decode b_Md_pain 61 = .ok (.iload 4, 2) := by decide +kernel
theorem d_Md_pain_63 : decode b_Md_pain 63 = .ok (.iload_n 3, 1) := by decide +kernel
theorem d_Md_pain_64 : decode b_Md_pain 64 = .ok (.isub, 1) := by decide +kernel
theorem d_Md_pain_65 : decode b_Md_pain 65 = .ok (.istore 4, 2) := by decide +kernel
theorem d_Md_pain_67 : decode b_Md_pain 67 = .ok (.goto 93, 3) := by decide +kernel
theorem d_Md_pain_70 : decode b_Md_pain 70 = .ok (.iload_n 3, 1) := by decide +kernel
theorem d_Md_pain_71 : decode b_Md_pain 71 = .ok (.aload_n 0, 1) := by decide +kernel
theorem d_Md_pain_72 : decode b_Md_pain 72 = .ok (.getfield 15, 3) := by decide +kernel
theorem d_Md_pain_75 : decode b_Md_pain 75 = .ok (.iload_n 1, 1) := by decide +kernel
theorem d_Md_pain_76 : decode b_Md_pain 76 = .ok (.iaload, 1) := by decide +kernel
theorem d_Md_pain_77 : decode b_Md_pain 77 = .ok (.if_icmp .ge 10, 3) := by decide +kernel
theorem d_Md_pain_80 : decode b_Md_pain 80 = .ok (.iload 4, 2) := by decide +kernel
theorem d_Md_pain_82 : decode b_Md_pain 82 = .ok (.iconst 2, 1) := by decide +kernel
theorem d_Md_pain_83 : decode b_Md_pain 83 = .ok (.idiv, 1) := by decide +kernel
theorem d_Md_pain_84 : decode b_Md_pain 84 = .ok (.goto 7, 3) := by decide +kernel
theorem d_Md_pain_87 : decode b_Md_pain 87 = .ok (.iconst 2, 1) := by decide +kernel
theorem d_Md_pain_88 : decode b_Md_pain 88 = .ok (.iload 4, 2) := by decide +kernel
theorem d_Md_pain_90 : decode b_Md_pain 90 = .ok (.imul, 1) := by decide +kernel
theorem d_Md_pain_91 : decode b_Md_pain 91 = .ok (.istore 4, 2) := by decide +kernel
theorem d_Md_pain_93 : decode b_Md_pain 93 = .ok (.aload_n 0, 1) := by decide +kernel
theorem d_Md_pain_94 : decode b_Md_pain 94 = .ok (.getfield 9, 3) := by decide +kernel
theorem d_Md_pain_97 : decode b_Md_pain 97 = .ok (.iload_n 1, 1) := by decide +kernel
theorem d_Md_pain_98 : decode b_Md_pain 98 = .ok (.iaload, 1) := by decide +kernel
theorem d_Md_pain_99 : decode b_Md_pain 99 = .ok (.bipush 6, 2) := by decide +kernel
theorem d_Md_pain_101 : decode b_Md_pain 101 = .ok (.if_icmp .ne 59, 3) := by decide +kernel
theorem d_Md_pain_104 : decode b_Md_pain 104 = .ok (.iload 4, 2) := by decide +kernel
theorem d_Md_pain_106 : decode b_Md_pain 106 = .ok (.aload_n 0, 1) := by decide +kernel
theorem d_Md_pain_107 : decode b_Md_pain 107 = .ok (.getfield 30, 3) := by decide +kernel
theorem d_Md_pain_110 : decode b_Md_pain 110 = .ok (.iconst 4, 1) := by decide +kernel
theorem d_Md_pain_111 : decode b_Md_pain 111 = .ok (.iload_n 1, 1) := by decide +kernel
theorem d_Md_pain_112 : decode b_Md_pain 112 = .ok (.imul, 1) := by decide +kernel
theorem d_Md_pain_113 : decode b_Md_pain 113 = .ok (.iload_n 2, 1) := by decide +kernel
theorem d_Md_pain_114 : decode b_Md_pain 114 = .ok (.iconst 4, 1) := by decide +kernel
theorem d_Md_pain_115 : decode b_Md_pain 115 = .ok (.irem, 1) := by decide +kernel
theorem d_Md_pain_116 : decode b_Md_pain 116 = .ok (.iadd, 1) := by decide +kernel
theorem d_Md_pain_117 : decode b_Md_pain 117 = .ok (.iaload, 1) := by decide +kernel
theorem d_Md_pain_118 : decode b_Md_pain 118 = .ok (.iadd, 1) := by decide +kernel
theorem d_Md_pain_119 : decode b_Md_pain 119 = .ok (.istore 4, 2) := by decide +kernel
theorem d_Md_pain_121 : decode b_Md_pain 121 = .ok (.goto 39, 3) := by decide +kernel
theorem d_Md_pain_124 : decode b_Md_pain 124 = .ok (.iload 4, 2) := by decide +kernel
theorem d_Md_pain_126 : decode b_Md_pain 126 = .ok (.iload_n 3, 1) := by decide +kernel
theorem d_Md_pain_127 : decode b_Md_pain 127 = .ok (.aload_n 0, 1) := by decide +kernel
theorem d_Md_pain_128 : decode b_Md_pain 128 = .ok (.getfield 15, 3) := by decide +kernel
theorem d_Md_pain_131 : decode b_Md_pain 131 = .ok (.iload_n 1, 1) := by decide +kernel
theorem d_Md_pain_132 : decode b_Md_pain 132 = .ok (.iaload, 1) := by decide +kernel
theorem d_Md_pain_133 : decode b_Md_pain 133 = .ok (.iadd, 1) := by decide +kernel
theorem d_Md_pain_134 : decode b_Md_pain 134 = .ok (.iadd, 1) := by decide +kernel
theorem d_Md_pain_135 : decode b_Md_pain 135 = .ok (.istore 4, 2) := by decide +kernel
theorem d_Md_pain_137 : decode b_Md_pain 137 = .ok (.goto 23, 3) := by decide +kernel
theorem d_Md_pain_140 : decode b_Md_pain 140 = .ok (.iload_n 2, 1) := by decide +kernel
theorem d_Md_pain_141 : decode b_Md_pain 141 = .ok (.iconst 2, 1) := by decide +kernel
theorem d_Md_pain_142 : decode b_Md_pain 142 = .ok (.irem, 1) := by decide +kernel
theorem d_Md_pain_143 : decode b_Md_pain 143 = .ok (.iconst 1, 1) := by decide +kernel
theorem d_Md_pain_144 : decode b_Md_pain 144 = .ok (.if_icmp .ne 7, 3) := by decide +kernel
theorem d_Md_pain_147 : decode b_Md_pain 147 = .ok (.iconst 0, 1) := by decide +kernel
theorem d_Md_pain_148 : decode b_Md_pain 148 = .ok (.goto 7, 3) := by decide +kernel
theorem d_Md_pain_151 : decode b_Md_pain 151 = .ok (.iload 4, 2) := by decide +kernel
theorem d_Md_pain_153 : decode b_Md_pain 153 = .ok (.iload_n 3, 1) := by decide +kernel
theorem d_Md_pain_154 : decode b_Md_pain 154 = .ok (.isub, 1) := by decide +kernel
theorem d_Md_pain_155 : decode b_Md_pain 155 = .ok (.istore 4, 2) := by decide +kernel
theorem d_Md_pain_157 : decode b_Md_pain 157 = .ok (.goto 3, 3) := by decide +kernel
theorem d_Md_pain_160 : decode b_Md_pain 160 = .ok (.iconst 0, 1) := by decide +kernel
theorem d_Md_pain_161 : decode b_Md_pain 161 = .ok (.iload 4, 2) := by decide +kernel
theorem d_Md_pain_163 : decode b_Md_pain 163 = .ok (.invokestatic 235, 3) := by decide +kernel
theorem d_Md_pain_166 : decode b_Md_pain 166 = .ok (.ireturn, 1) := by decide +kernel
theorem d_Md_todays_0 : decode b_Md_todays 0 = .ok (.aload_n 0, 1) := by decide +kernel
theorem d_Md_todays_1 : decode b_Md_todays 1 = .ok (.aload_n 0, 1) := by decide +kernel
theorem d_Md_todays_2 : decode b_Md_todays 2 = .ok (.getfield 135, 3) := by decide +kernel
theorem d_Md_todays_5 : decode b_Md_todays 5 = .ok (.invokevirtual 241, 3) := by decide +kernel
theorem d_Md_todays_8 : decode b_Md_todays 8 = .ok (.ifCond .eq 6, 3) := by decide +kernel
theorem d_Md_todays_11 : decode b_Md_todays 11 = .ok (.bipush (-5), 2) := by decide +kernel
theorem d_Md_todays_13 : decode b_Md_todays 13 = .ok (.ireturn, 1) := by decide +kernel
theorem d_Md_todays_14 : decode b_Md_todays 14 = .ok (.iconst 0, 1) := by decide +kernel
theorem d_Md_todays_15 : decode b_Md_todays 15 = .ok (.istore_n 1, 1) := by decide +kernel
theorem d_Md_todays_16 : decode b_Md_todays 16 = .ok (.iload_n 1, 1) := by decide +kernel
theorem d_Md_todays_17 : decode b_Md_todays 17 = .ok (.aload_n 0, 1) := by decide +kernel
theorem d_Md_todays_18 : decode b_Md_todays 18 = .ok (.getfield 124, 3) := by decide +kernel
theorem d_Md_todays_21 : decode b_Md_todays 21 = .ok (.if_icmp .ge 30, 3) := by decide +kernel
theorem d_Md_todays_24 : decode b_Md_todays 24 = .ok (.aload_n 0, 1) := by decide +kernel
theorem d_Md_todays_25 : decode b_Md_todays 25 = .ok (.getfield 27, 3) := by decide +kernel
theorem d_Md_todays_28 : decode b_Md_todays 28 = .ok (.aload_n 0, 1) := by decide +kernel
theorem d_Md_todays_29 : decode b_Md_todays 29 = .ok (.getfield 33, 3) := by decide +kernel
theorem d_Md_todays_32 : decode b_Md_todays 32 = .ok (.iload_n 1, 1) := by decide +kernel
theorem d_Md_todays_33 : decode b_Md_todays 33 = .ok (.iaload, 1) := by decide +kernel
theorem d_Md_todays_34 : decode b_Md_todays 34 = .ok (.iaload, 1) := by decide +kernel
theorem d_Md_todays_35 : decode b_Md_todays 35 = .ok (.ifCond .ne 10, 3) := by decide +kernel
theorem d_Md_todays_38 : decode b_Md_todays 38 = .ok (.aload_n 0, 1) := by decide +kernel
theorem d_Md_todays_39 : decode b_Md_todays 39 = .ok (.getfield 33, 3) := by decide +kernel
theorem d_Md_todays_42 : decode b_Md_todays 42 = .ok (.iload_n 1, 1) := by decide +kernel
theorem d_Md_todays_43 : decode b_Md_todays 43 = .ok (.iaload, 1) := by decide +kernel
theorem d_Md_todays_44 : decode b_Md_todays 44 = .ok (.ireturn, 1) := by decide +kernel
theorem d_Md_todays_45 : decode b_Md_todays 45 = .ok (.iinc 1 1, 3) := by decide +kernel
theorem d_Md_todays_48 : decode b_Md_todays 48 = .ok (.goto (-32), 3) := by decide +kernel
theorem d_Md_todays_51 : decode b_Md_todays 51 = .ok (.bipush (-5), 2) := by decide +kernel
theorem d_Md_todays_53 : decode b_Md_todays 53 = .ok (.ireturn, 1) := by decide +kernel
theorem d_Md_goesDay_0 : decode b_Md_goesDay 0 = .ok (.aload_n 0, 1) := by decide +kernel
theorem d_Md_goesDay_1 : decode b_Md_goesDay 1 = .ok (.invokevirtual 244, 3) := by decide +kernel
theorem d_Md_goesDay_4 : decode b_Md_goesDay 4 = .ok (.istore_n 1, 1) := by decide +kernel
theorem d_Md_goesDay_5 : decode b_Md_goesDay 5 = .ok (.iconst 0, 1) := by decide +kernel
theorem d_Md_goesDay_6 : decode b_Md_goesDay 6 = .ok (.istore_n 2, 1) := by decide +kernel
theorem d_Md_goesDay_7 : decode b_Md_goesDay 7 = .ok (.iload_n 2, 1) := by decide +kernel
theorem d_Md_goesDay_8 : decode b_Md_goesDay 8 = .ok (.aload_n 0, 1) := by decide +kernel
theorem d_Md_goesDay_9 : decode b_Md_goesDay 9 = .ok (.getfield 117, 3) := by decide +kernel
theorem d_Md_goesDay_12 : decode b_Md_goesDay 12 = .ok (.if_icmp .ge 70, 3) := by decide +kernel
theorem d_Md_goesDay_15 : decode b_Md_goesDay 15 = .ok (.iload_n 2, 1) := by decide +kernel
theorem d_Md_goesDay_16 : decode b_Md_goesDay 16 = .ok (.iload_n 1, 1) := by decide +kernel
theorem d_Md_goesDay_17 : decode b_Md_goesDay 17 = .ok (.if_icmp .eq 59, 3) := by decide +kernel
theorem d_Md_goesDay_20 : decode b_Md_goesDay 20 = .ok (.aload_n 0, 1) := by decide +kernel
theorem d_Md_goesDay_21 : decode b_Md_goesDay 21 = .ok (.getfield 27, 3) := by decide +kernel
theorem d_Md_goesDay_24 : decode b_Md_goesDay 24 = .ok (.iload_n 2, 1) := by decide +kernel
theorem d_Md_goesDay_25 : decode b_Md_goesDay 25 = .ok (.iaload, 1) := by decide +kernel
theorem d_Md_goesDay_26 : decode b_Md_goesDay 26 = .ok (.iconst 1, 1) := by decide +kernel
theorem d_Md_goesDay_27 : decode b_Md_goesDay 27 = .ok (.if_icmp .ne 6, 3) := by decide +kernel
theorem d_Md_goesDay_30 : decode b_Md_goesDay 30 = .ok (.goto 46, 3) := by decide +kernel
theorem d_Md_goesDay_33 : decode b_Md_goesDay 33 = .ok (.aload_n 0, 1) := by decide +kernel
theorem d_Md_goesDay_34 : decode b_Md_goesDay 34 = .ok (.getfield 24, 3) := by decide +kernel
theorem d_Md_goesDay_37 : decode b_Md_goesDay 37 = .ok (.iload_n 2, 1) := by decide +kernel
theorem d_Md_goesDay_38 : decode b_Md_goesDay 38 = .ok (.dup2, 1) := by decide +kernel
theorem d_Md_goesDay_39 : decode b_Md_goesDay 39 = .ok (.iaload, 1) := by decide +kernel
theorem d_Md_goesDay_40 : decode b_Md_goesDay 40 = .ok (.aload_n 0, 1) := by decide +kernel
theorem d_Md_goesDay_41 : decode b_Md_goesDay 41 = .ok (.iload_n 2, 1) := by decide +kernel
theorem d_Md_goesDay_42 : decode b_Md_goesDay 42 = .ok (.aload_n 0, 1) := by decide +kernel
theorem d_Md_goesDay_43 : decode b_Md_goesDay 43 = .ok (.getfield 135, 3) := by decide +kernel
theorem d_Md_goesDay_46 : decode b_Md_goesDay 46 = .ok (.aload_n 0, 1) := by decide +kernel
theorem d_Md_goesDay_47 : decode b_Md_goesDay 47 = .ok (.getfield 21, 3) := by decide +kernel
theorem d_Md_goesDay_50 : decode b_Md_goesDay 50 = .ok (.iload_n 2, 1) := by decide +kernel
theorem d_Md_goesDay_51 : decode b_Md_goesDay 51 = .ok (.iaload, 1) := by decide +kernel
theorem d_Md_goesDay_52 : decode b_Md_goesDay 52 = .ok (.invokevirtual 138, 3) := by decide +kernel
theorem d_Md_goesDay_55 : decode b_Md_goesDay 55 = .ok (.iadd, 1) := by decide +kernel
theorem d_Md_goesDay_56 : decode b_Md_goesDay 56 = .ok (.iastore, 1) := by decide +kernel
theorem d_Md_goesDay_57 : decode b_Md_goesDay 57 = .ok (.aload_n 0, 1) := by decide +kernel
theorem d_Md_goesDay_58 : decode b_Md_goesDay 58 = .ok (.getfield 21, 3) := by decide +kernel
theorem d_Md_goesDay_61 : decode b_Md_goesDay 61 = .ok (.iload_n 2, 1) := by decide +kernel
theorem d_Md_goesDay_62 : decode b_Md_goesDay 62 = .ok (.bipush 99, 2) := by decide +kernel
theorem d_Md_goesDay_64 : decode b_Md_goesDay 64 = .ok (.aload_n 0, 1) := by decide +kernel
theorem d_Md_goesDay_65 : decode b_Md_goesDay 65 = .ok (.getfield 21, 3) := by decide +kernel
theorem d_Md_goesDay_68 : decode b_Md_goesDay 68 = .ok (.iload_n 2, 1) := by decide +kernel
theorem d_Md_goesDay_69 : decode b_Md_goesDay 69 = .ok (.iaload, 1) := by decide +kernel
theorem d_Md_goesDay_70 : decode b_Md_goesDay 70 = .ok (.iconst 1, 1) := by decide +kernel
theorem d_Md_goesDay_71 : decode b_Md_goesDay 71 = .ok (.iadd, 1) := by decide +kernel
theorem d_Md_goesDay_72 : decode b_Md_goesDay 72 = .ok (.invokestatic 247, 3) := by decide +kernel
theorem d_Md_goesDay_75 : decode b_Md_goesDay 75 = .ok (.iastore, 1) := by decide +kernel
theorem d_Md_goesDay_76 : decode b_Md_goesDay 76 = .ok (.iinc 2 1, 3) := by decide +kernel
theorem d_Md_goesDay_79 : decode b_Md_goesDay 79 = .ok (.goto (-72), 3) := by decide +kernel
theorem d_Md_goesDay_82 : decode b_Md_goesDay 82 = .ok (.iload_n 1, 1) := by decide +kernel
theorem d_Md_goesDay_83 : decode b_Md_goesDay 83 = .ok (.bipush (-5), 2) := by decide +kernel
theorem d_Md_goesDay_85 : decode b_Md_goesDay 85 = .ok (.if_icmp .eq 10, 3) := by decide +kernel
theorem d_Md_goesDay_88 : decode b_Md_goesDay 88 = .ok (.aload_n 0, 1) := by decide +kernel
theorem d_Md_goesDay_89 : decode b_Md_goesDay 89 = .ok (.getfield 27, 3) := by decide +kernel
theorem d_Md_goesDay_92 : decode b_Md_goesDay 92 = .ok (.iload_n 1, 1) := by decide +kernel
theorem d_Md_goesDay_93 : decode b_Md_goesDay 93 = .ok (.iconst 1, 1) := by decide +kernel
theorem d_Md_goesDay_94 : decode b_Md_goesDay 94 = .ok (.iastore, 1) := by decide +kernel
theorem d_Md_goesDay_95 : decode b_Md_goesDay 95 = .ok (.aload_n 0, 1) := by decide +kernel
theorem d_Md_goesDay_96 : decode b_Md_goesDay 96 = .ok (.dup, 1) := by decide +kernel
theorem d_Md_goesDay_97 : decode b_Md_goesDay 97 = .ok (.getfield 135, 3) := by decide +kernel
theorem d_Md_goesDay_100 : decode b_Md_goesDay 100 = .ok (.iconst 1, 1) := by decide +kernel
theorem d_Md_goesDay_101 : decode b_Md_goesDay 101 = .ok (.iadd, 1) := by decide +kernel
theorem d_Md_goesDay_102 : decode b_Md_goesDay 102 = .ok (.putfield 135, 3) := by decide +kernel
theorem d_Md_goesDay_105 : decode b_Md_goesDay 105 = .ok (.return_, 1) := by decide +kernel
theorem d_Md_pass_0 : decode b_Md_pass 0 = .ok (.iload_n 1, 1) := by decide +kernel
theorem d_Md_pass_1 : decode b_Md_pass 1 = .ok (.iconst 0, 1) := by decide +kernel
theorem d_Md_pass_2 : decode b_Md_pass 2 = .ok (.bipush 60, 2) := by decide +kernel
theorem d_Md_pass_4 : decode b_Md_pass 4 = .ok (.invokestatic 120, 3) := by decide +kernel
theorem d_Md_pass_7 : decode b_Md_pass 7 = .ok (.ifCond .ne 6, 3) := by decide +kernel
theorem d_Md_pass_10 : decode b_Md_pass 10 = .ok (.bipush (-2), 2) := by decide +kernel
theorem d_Md_pass_12 : decode b_Md_pass 12 = .ok (.ireturn, 1) := by decide +kernel
theorem d_Md_pass_13 : decode b_Md_pass 13 = .ok (.aload_n 0, 1) := by decide +kernel
theorem d_Md_pass_14 : decode b_Md_pass 14 = .ok (.getfield 135, 3) := by decide +kernel
theorem d_Md_pass_17 : decode b_Md_pass 17 = .ok (.iload_n 1, 1) := by decide +kernel
theorem d_Md_pass_18 : decode b_Md_pass 18 = .ok (.iadd, 1) := by decide +kernel
theorem d_Md_pass_19 : decode b_Md_pass 19 = .ok (.sipush 9999, 3) := by decide +kernel
theorem d_Md_pass_22 : decode b_Md_pass 22 = .ok (.if_icmp .le 6, 3) := by decide +kernel
theorem d_Md_pass_25 : decode b_Md_pass 25 = .ok (.bipush (-3), 2) := by decide +kernel
theorem d_Md_pass_27 : decode b_Md_pass 27 = .ok (.ireturn, 1) := by decide +kernel
theorem d_Md_pass_28 : decode b_Md_pass 28 = .ok (.iconst 0, 1) := by decide +kernel
theorem d_Md_pass_29 : decode b_Md_pass 29 = .ok (.istore_n 2, 1) := by decide +kernel
theorem d_Md_pass_30 : decode b_Md_pass 30 = .ok (.iload_n 2, 1) := by decide +kernel
theorem d_Md_pass_31 : decode b_Md_pass 31 = .ok (.iload_n 1, 1) := by decide +kernel
theorem d_Md_pass_32 : decode b_Md_pass 32 = .ok (.if_icmp .ge 46, 3) := by decide +kernel
theorem d_Md_pass_35 : decode b_Md_pass 35 = .ok (.aload_n 0, 1) := by decide +kernel
theorem d_Md_pass_36 : decode b_Md_pass 36 = .ok (.invokevirtual 250, 3) := by decide +kernel
theorem d_Md_pass_39 : decode b_Md_pass 39 = .ok (.iconst 0, 1) := by decide +kernel
theorem d_Md_pass_40 : decode b_Md_pass 40 = .ok (.istore_n 3, 1) := by decide +kernel
theorem d_Md_pass_41 : decode b_Md_pass 41 = .ok (.iload_n 3, 1) := by decide +kernel
theorem d_Md_pass_42 : decode b_Md_pass 42 = .ok (.aload_n 0, 1) := by decide +kernel
theorem d_Md_pass_43 : decode b_Md_pass 43 = .ok (.getfield 117, 3) := by decide +kernel
theorem d_Md_pass_46 : decode b_Md_pass 46 = .ok (.if_icmp .ge 26, 3) := by decide +kernel
theorem d_Md_pass_49 : decode b_Md_pass 49 = .ok (.aload_n 0, 1) := by decide +kernel
theorem d_Md_pass_50 : decode b_Md_pass 50 = .ok (.getfield 24, 3) := by decide +kernel
theorem d_Md_pass_53 : decode b_Md_pass 53 = .ok (.iload_n 3, 1) := by decide +kernel
theorem d_Md_pass_54 : decode b_Md_pass 54 = .ok (.ldc 142, 2) := by decide +kernel
theorem d_Md_pass_56 : decode b_Md_pass 56 = .ok (.aload_n 0, 1) := by decide +kernel
theorem d_Md_pass_57 : decode b_Md_pass 57 = .ok (.getfield 24, 3) := by decide +kernel
theorem d_Md_pass_60 : decode b_Md_pass 60 = .ok (.iload_n 3, 1) := by decide +kernel
theorem d_Md_pass_61 : decode b_Md_pass 61 = .ok (.iaload, 1) := by decide +kernel
theorem d_Md_pass_62 : decode b_Md_pass 62 = .ok (.invokestatic 247, 3) := by decide +kernel
theorem d_Md_pass_65 : decode b_Md_pass 65 = .ok (.iastore, 1) := by decide +kernel
theorem d_Md_pass_66 : decode b_Md_pass 66 = .ok (.iinc 3 1, 3) := by decide +kernel
theorem d_Md_pass_69 : decode b_Md_pass 69 = .ok (.goto (-28), 3) := by decide +kernel
theorem d_Md_pass_72 : decode b_Md_pass 72 = .ok (.iinc 2 1, 3) := by decide +kernel
theorem d_Md_pass_75 : decode b_Md_pass 75 = .ok (.goto (-45), 3) := by decide +kernel
theorem d_Md_pass_78 : decode b_Md_pass 78 = .ok (.aload_n 0, 1) := by decide +kernel
theorem d_Md_pass_79 : decode b_Md_pass 79 = .ok (.getfield 135, 3) := by decide +kernel
theorem d_Md_pass_82 : decode b_Md_pass 82 = .ok (.ireturn, 1) := by decide +kernel
theorem d_Md_allHurt_0 : decode b_Md_allHurt 0 = .ok (.iconst 0, 1) := by decide +kernel
theorem d_Md_allHurt_1 : decode b_Md_allHurt 1 = .ok (.istore_n 1, 1) := by decide +kernel
theorem d_Md_allHurt_2 : decode b_Md_allHurt 2 = .ok (.iconst 0, 1) := by decide +kernel
theorem d_Md_allHurt_3 : decode b_Md_allHurt 3 = .ok (.istore_n 2, 1) := by decide +kernel
theorem d_Md_allHurt_4 : decode b_Md_allHurt 4 = .ok (.iload_n 2, 1) := by decide +kernel
theorem d_Md_allHurt_5 : decode b_Md_allHurt 5 = .ok (.aload_n 0, 1) := by decide +kernel
theorem d_Md_allHurt_6 : decode b_Md_allHurt 6 = .ok (.getfield 117, 3) := by decide +kernel
theorem d_Md_allHurt_9 : decode b_Md_allHurt 9 = .ok (.if_icmp .ge 18, 3) := by decide +kernel
theorem d_Md_allHurt_12 : decode b_Md_allHurt 12 = .ok (.iload_n 1, 1) := by decide +kernel
theorem d_Md_allHurt_13 : decode b_Md_allHurt 13 = .ok (.aload_n 0, 1) := by decide +kernel
theorem d_Md_allHurt_14 : decode b_Md_allHurt 14 = .ok (.getfield 24, 3) := by decide +kernel
theorem d_Md_allHurt_17 : decode b_Md_allHurt 17 = .ok (.iload_n 2, 1) := by decide +kernel
theorem d_Md_allHurt_18 : decode b_Md_allHurt 18 = .ok (.iaload, 1) := by decide +kernel
theorem d_Md_allHurt_19 : decode b_Md_allHurt 19 = .ok (.iadd, 1) := by decide +kernel
theorem d_Md_allHurt_20 : decode b_Md_allHurt 20 = .ok (.istore_n 1, 1) := by decide +kernel
theorem d_Md_allHurt_21 : decode b_Md_allHurt 21 = .ok (.iinc 2 1, 3) := by decide +kernel
theorem d_Md_allHurt_24 : decode b_Md_allHurt 24 = .ok (.goto (-20), 3) := by decide +kernel
theorem d_Md_allHurt_27 : decode b_Md_allHurt 27 = .ok (.iload_n 1, 1) := by decide +kernel
theorem d_Md_allHurt_28 : decode b_Md_allHurt 28 = .ok (.ireturn, 1) := by decide +kernel
theorem d_Md_allDone_0 : decode b_Md_allDone 0 = .ok (.iconst 0, 1) := by decide +kernel
theorem d_Md_allDone_1 : decode b_Md_allDone 1 = .ok (.istore_n 1, 1) := by decide +kernel
theorem d_Md_allDone_2 : decode b_Md_allDone 2 = .ok (.iconst 0, 1) := by decide +kernel
theorem d_Md_allDone_3 : decode b_Md_allDone 3 = .ok (.istore_n 2, 1) := by decide +kernel
theorem d_Md_allDone_4 : decode b_Md_allDone 4 = .ok (.iload_n 2, 1) := by decide +kernel
theorem d_Md_allDone_5 : decode b_Md_allDone 5 = .ok (.aload_n 0, 1) := by decide +kernel
theorem d_Md_allDone_6 : decode b_Md_allDone 6 = .ok (.getfield 117, 3) := by decide +kernel
theorem d_Md_allDone_9 : decode b_Md_allDone 9 = .ok (.if_icmp .ge 18, 3) := by decide +kernel
theorem d_Md_allDone_12 : decode b_Md_allDone 12 = .ok (.iload_n 1, 1) := by decide +kernel
theorem d_Md_allDone_13 : decode b_Md_allDone 13 = .ok (.aload_n 0, 1) := by decide +kernel
theorem d_Md_allDone_14 : decode b_Md_allDone 14 = .ok (.getfield 27, 3) := by decide +kernel
theorem d_Md_allDone_17 : decode b_Md_allDone 17 = .ok (.iload_n 2, 1) := by decide +kernel
theorem d_Md_allDone_18 : decode b_Md_allDone 18 = .ok (.iaload, 1) := by decide +kernel
theorem d_Md_allDone_19 : decode b_Md_allDone 19 = .ok (.iadd, 1) := by decide +kernel
theorem d_Md_allDone_20 : decode b_Md_allDone 20 = .ok (.istore_n 1, 1) := by decide +kernel
theorem d_Md_allDone_21 : decode b_Md_allDone 21 = .ok (.iinc 2 1, 3) := by decide +kernel
theorem d_Md_allDone_24 : decode b_Md_allDone 24 = .ok (.goto (-20), 3) := by decide +kernel
theorem d_Md_allDone_27 : decode b_Md_allDone 27 = .ok (.iload_n 1, 1) := by decide +kernel
theorem d_Md_allDone_28 : decode b_Md_allDone 28 = .ok (.ireturn, 1) := by decide +kernel
theorem d_Md_told_0 : decode b_Md_told 0 = .ok (.iload_n 1, 1) := by decide +kernel
theorem d_Md_told_1 : decode b_Md_told 1 = .ok (.tableswitch 110 0 8 #[51, 56, 61, 78, 83, 88, 93, 98, 104], 51) := by decide +kernel
theorem d_Md_told_52 : decode b_Md_told 52 = .ok (.aload_n 0, 1) := by decide +kernel
theorem d_Md_told_53 : decode b_Md_told 53 = .ok (.getfield 135, 3) := by decide +kernel
theorem d_Md_told_56 : decode b_Md_told 56 = .ok (.ireturn, 1) := by decide +kernel
theorem d_Md_told_57 : decode b_Md_told 57 = .ok (.aload_n 0, 1) := by decide +kernel
theorem d_Md_told_58 : decode b_Md_told 58 = .ok (.invokevirtual 229, 3) := by decide +kernel
theorem d_Md_told_61 : decode b_Md_told 61 = .ok (.ireturn, 1) := by decide +kernel
theorem d_Md_told_62 : decode b_Md_told 62 = .ok (.aload_n 0, 1) := by decide +kernel
theorem d_Md_told_63 : decode b_Md_told 63 = .ok (.aload_n 0, 1) := by decide +kernel
theorem d_Md_told_64 : decode b_Md_told 64 = .ok (.getfield 135, 3) := by decide +kernel
theorem d_Md_told_67 : decode b_Md_told 67 = .ok (.invokevirtual 241, 3) := by decide +kernel
theorem d_Md_told_70 : decode b_Md_told 70 = .ok (.ifCond .eq 7, 3) := by decide +kernel
theorem d_Md_told_73 : decode b_Md_told 73 = .ok (.iconst 1, 1) := by decide +kernel
theorem d_Md_told_74 : decode b_Md_told 74 = .ok (.goto 4, 3) := by decide +kernel
theorem d_Md_told_77 : decode b_Md_told 77 = .ok (.iconst 0, 1) := by decide +kernel
theorem d_Md_told_78 : decode b_Md_told 78 = .ok (.ireturn, 1) := by decide +kernel
theorem d_Md_told_79 : decode b_Md_told 79 = .ok (.aload_n 0, 1) := by decide +kernel
theorem d_Md_told_80 : decode b_Md_told 80 = .ok (.invokevirtual 253, 3) := by decide +kernel
theorem d_Md_told_83 : decode b_Md_told 83 = .ok (.ireturn, 1) := by decide +kernel
theorem d_Md_told_84 : decode b_Md_told 84 = .ok (.aload_n 0, 1) := by decide +kernel
theorem d_Md_told_85 : decode b_Md_told 85 = .ok (.invokevirtual 256, 3) := by decide +kernel
theorem d_Md_told_88 : decode b_Md_told 88 = .ok (.ireturn, 1) := by decide +kernel
theorem d_Md_told_89 : decode b_Md_told 89 = .ok (.aload_n 0, 1) := by decide +kernel
theorem d_Md_told_90 : decode b_Md_told 90 = .ok (.invokevirtual 244, 3) := by decide +kernel
theorem d_Md_told_93 : decode b_Md_told 93 = .ok (.ireturn, 1) := by decide +kernel
theorem d_Md_told_94 : decode b_Md_told 94 = .ok (.aload_n 0, 1) := by decide +kernel
theorem d_Md_told_95 : decode b_Md_told 95 = .ok (.invokevirtual 259, 3) := by decide +kernel
theorem d_Md_told_98 : decode b_Md_told 98 = .ok (.ireturn, 1) := by decide +kernel
theorem d_Md_told_99 : decode b_Md_told 99 = .ok (.aload_n 0, 1) := by decide +kernel
theorem d_Md_told_100 : decode b_Md_told 100 = .ok (.iconst 0, 1) := by decide +kernel
theorem d_Md_told_101 : decode b_Md_told 101 = .ok (.invokevirtual 262, 3) := by decide +kernel
theorem d_Md_told_104 : decode b_Md_told 104 = .ok (.ireturn, 1) := by decide +kernel
theorem d_Md_told_105 : decode b_Md_told 105 = .ok (.aload_n 0, 1) := by decide +kernel
theorem d_Md_told_106 : decode b_Md_told 106 = .ok (.iconst 1, 1) := by decide +kernel
theorem d_Md_told_107 : decode b_Md_told 107 = .ok (.invokevirtual 262, 3) := by decide +kernel
theorem d_Md_told_110 : decode b_Md_told 110 = .ok (.ireturn, 1) := by decide +kernel
theorem d_Md_told_111 : decode b_Md_told 111 = .ok (.iconst (-1), 1) := by decide +kernel
theorem d_Md_told_112 : decode b_Md_told 112 = .ok (.ireturn, 1) := by decide +kernel
theorem d_Md_on_0 : decode b_Md_on 0 = .ok (.iload_n 2, 1) := by decide +kernel
theorem d_Md_on_1 : decode b_Md_on 1 = .ok (.iconst 0, 1) := by decide +kernel
theorem d_Md_on_2 : decode b_Md_on 2 = .ok (.iconst 1, 1) := by decide +kernel
theorem d_Md_on_3 : decode b_Md_on 3 = .ok (.invokestatic 120, 3) := by decide +kernel
theorem d_Md_on_6 : decode b_Md_on 6 = .ok (.ifCond .ne 16, 3) := by decide +kernel
theorem d_Md_on_9 : decode b_Md_on 9 = .ok (.aload_n 0, 1) := by decide +kernel
theorem d_Md_on_10 : decode b_Md_on 10 = .ok (.iload_n 2, 1) := by decide +kernel
theorem d_Md_on_11 : decode b_Md_on 11 = .ok (.bipush 10, 2) := by decide +kernel
theorem d_Md_on_13 : decode b_Md_on 13 = .ok (.isub, 1) := by decide +kernel
theorem d_Md_on_14 : decode b_Md_on 14 = .ok (.invokevirtual 127, 3) := by decide +kernel
theorem d_Md_on_17 : decode b_Md_on 17 = .ok (.ifCond .ne 5, 3) := by decide +kernel
theorem d_Md_on_20 : decode b_Md_on 20 = .ok (.iconst (-1), 1) := by decide +kernel
theorem d_Md_on_21 : decode b_Md_on 21 = .ok (.ireturn, 1) := by decide +kernel
theorem d_Md_on_22 : decode b_Md_on 22 = .ok (.iload_n 1, 1) := by decide +kernel
theorem d_Md_on_23 : decode b_Md_on 23 = .ok (.iconst 0, 1) := by decide +kernel
theorem d_Md_on_24 : decode b_Md_on 24 = .ok (.bipush 60, 2) := by decide +kernel
theorem d_Md_on_26 : decode b_Md_on 26 = .ok (.invokestatic 120, 3) := by decide +kernel
theorem d_Md_on_29 : decode b_Md_on 29 = .ok (.ifCond .ne 6, 3) := by decide +kernel
theorem d_Md_on_32 : decode b_Md_on 32 = .ok (.bipush (-2), 2) := by decide +kernel
theorem d_Md_on_34 : decode b_Md_on 34 = .ok (.ireturn, 1) := by decide +kernel
theorem d_Md_on_35 : decode b_Md_on 35 = .ok (.aload_n 0, 1) := by decide +kernel
theorem d_Md_on_36 : decode b_Md_on 36 = .ok (.aload_n 0, 1) := by decide +kernel
theorem d_Md_on_37 : decode b_Md_on 37 = .ok (.getfield 88, 3) := by decide +kernel
theorem d_Md_on_40 : decode b_Md_on 40 = .ok (.invokevirtual 265, 3) := by decide +kernel
theorem d_Md_on_43 : decode b_Md_on 43 = .ok (.iconst 0, 1) := by decide +kernel
theorem d_Md_on_44 : decode b_Md_on 44 = .ok (.istore_n 3, 1) := by decide +kernel
theorem d_Md_on_45 : decode b_Md_on 45 = .ok (.iload_n 3, 1) := by decide +kernel
theorem d_Md_on_46 : decode b_Md_on 46 = .ok (.iload_n 1, 1) := by decide +kernel
theorem d_Md_on_47 : decode b_Md_on 47 = .ok (.if_icmp .ge 13, 3) := by decide +kernel
theorem d_Md_on_50 : decode b_Md_on 50 = .ok (.aload_n 0, 1) := by decide +kernel
theorem d_Md_on_51 : decode b_Md_on 51 = .ok (.invokevirtual 250, 3) := by decide +kernel
theorem d_Md_on_54 : decode b_Md_on 54 = .ok (.iinc 3 1, 3) := by decide +kernel
theorem d_Md_on_57 : decode b_Md_on 57 = .ok (.goto (-12), 3) := by decide +kernel
theorem d_Md_on_60 : decode b_Md_on 60 = .ok (.iload_n 2, 1) := by decide +kernel
theorem d_Md_on_61 : decode b_Md_on 61 = .ok (.ifCond .ne 10, 3) := by decide +kernel
theorem d_Md_on_64 : decode b_Md_on 64 = .ok (.aload_n 0, 1) := by decide +kernel
theorem d_Md_on_65 : decode b_Md_on 65 = .ok (.invokevirtual 253, 3) := by decide +kernel
theorem d_Md_on_68 : decode b_Md_on 68 = .ok (.goto 24, 3) := by decide +kernel
theorem d_Md_on_71 : decode b_Md_on 71 = .ok (.iload_n 2, 1) := by decide +kernel
theorem d_Md_on_72 : decode b_Md_on 72 = .ok (.iconst 1, 1) := by decide +kernel
theorem d_Md_on_73 : decode b_Md_on 73 = .ok (.if_icmp .ne 10, 3) := by decide +kernel
theorem d_Md_on_76 : decode b_Md_on 76 = .ok (.aload_n 0, 1) := by decide +kernel
theorem d_Md_on_77 : decode b_Md_on 77 = .ok (.invokevirtual 256, 3) := by decide +kernel
theorem d_Md_on_80 : decode b_Md_on 80 = .ok (.goto 12, 3) := by decide +kernel
theorem d_Md_on_83 : decode b_Md_on 83 = .ok (.aload_n 0, 1) := by decide +kernel
theorem d_Md_on_84 : decode b_Md_on 84 = .ok (.getfield 24, 3) := by decide +kernel
theorem d_Md_on_87 : decode b_Md_on 87 = .ok (.iload_n 2, 1) := by decide +kernel
theorem d_Md_on_88 : decode b_Md_on 88 = .ok (.bipush 10, 2) := by decide +kernel
theorem d_Md_on_90 : decode b_Md_on 90 = .ok (.isub, 1) := by decide +kernel
theorem d_Md_on_91 : decode b_Md_on 91 = .ok (.iaload, 1) := by decide +kernel
theorem d_Md_on_92 : decode b_Md_on 92 = .ok (.istore_n 3, 1) := by decide +kernel
theorem d_Md_on_93 : decode b_Md_on 93 = .ok (.aload_n 0, 1) := by decide +kernel
theorem d_Md_on_94 : decode b_Md_on 94 = .ok (.aload_n 0, 1) := by decide +kernel
theorem d_Md_on_95 : decode b_Md_on 95 = .ok (.getfield 88, 3) := by decide +kernel
theorem d_Md_on_98 : decode b_Md_on 98 = .ok (.invokevirtual 269, 3) := by decide +kernel
theorem d_Md_on_101 : decode b_Md_on 101 = .ok (.iload_n 3, 1) := by decide +kernel
theorem d_Md_on_102 : decode b_Md_on 102 = .ok (.ireturn, 1) := by decide +kernel
theorem d_Md_turn_0 : decode b_Md_turn 0 = .ok (.aload_n 0, 1) := by decide +kernel
theorem d_Md_turn_1 : decode b_Md_turn 1 = .ok (.iload_n 1, 1) := by decide +kernel
theorem d_Md_turn_2 : decode b_Md_turn 2 = .ok (.invokevirtual 127, 3) := by decide +kernel
theorem d_Md_turn_5 : decode b_Md_turn 5 = .ok (.ifCond .ne 5, 3) := by decide +kernel
theorem d_Md_turn_8 : decode b_Md_turn 8 = .ok (.iconst (-1), 1) := by decide +kernel
theorem d_Md_turn_9 : decode b_Md_turn 9 = .ok (.ireturn, 1) := by decide +kernel
theorem d_Md_turn_10 : decode b_Md_turn 10 = .ok (.aload_n 0, 1) := by decide +kernel
theorem d_Md_turn_11 : decode b_Md_turn 11 = .ok (.aload_n 0, 1) := by decide +kernel
theorem d_Md_turn_12 : decode b_Md_turn 12 = .ok (.getfield 88, 3) := by decide +kernel
theorem d_Md_turn_15 : decode b_Md_turn 15 = .ok (.invokevirtual 265, 3) := by decide +kernel
theorem d_Md_turn_18 : decode b_Md_turn 18 = .ok (.bipush (-5), 2) := by decide +kernel
theorem d_Md_turn_20 : decode b_Md_turn 20 = .ok (.istore_n 2, 1) := by decide +kernel
theorem d_Md_turn_21 : decode b_Md_turn 21 = .ok (.iconst 0, 1) := by decide +kernel
theorem d_Md_turn_22 : decode b_Md_turn 22 = .ok (.istore_n 3, 1) := by decide +kernel
theorem d_Md_turn_23 : decode b_Md_turn 23 = .ok (.iload_n 3, 1) := by decide +kernel
theorem d_Md_turn_24 : decode b_Md_turn 24 = .ok (.bipush 61, 2) := by decide +kernel
theorem d_Md_turn_26 : decode b_Md_turn 26 = .ok (.if_icmp .ge 35, 3) := by decide +kernel
theorem d_Md_turn_29 : decode b_Md_turn 29 = .ok (.iload_n 2, 1) := by decide +kernel
theorem d_Md_turn_30 : decode b_Md_turn 30 = .ok (.bipush (-5), 2) := by decide +kernel
theorem d_Md_turn_32 : decode b_Md_turn 32 = .ok (.if_icmp .ne 29, 3) := by decide +kernel
theorem d_Md_turn_35 : decode b_Md_turn 35 = .ok (.iload_n 3, 1) := by decide +kernel
theorem d_Md_turn_36 : decode b_Md_turn 36 = .ok (.ifCond .le 7, 3) := by decide +kernel
theorem d_Md_turn_39 : decode b_Md_turn 39 = .ok (.aload_n 0, 1) := by decide +kernel
theorem d_Md_turn_40 : decode b_Md_turn 40 = .ok (.invokevirtual 250, 3) := by decide +kernel
theorem d_Md_turn_43 : decode b_Md_turn 43 = .ok (.aload_n 0, 1) := by decide +kernel
theorem d_Md_turn_44 : decode b_Md_turn 44 = .ok (.getfield 27, 3) := by decide +kernel
theorem d_Md_turn_47 : decode b_Md_turn 47 = .ok (.iload_n 1, 1) := by decide +kernel
theorem d_Md_turn_48 : decode b_Md_turn 48 = .ok (.iaload, 1) := by decide +kernel
theorem d_Md_turn_49 : decode b_Md_turn 49 = .ok (.iconst 1, 1) := by decide +kernel
theorem d_Md_turn_50 : decode b_Md_turn 50 = .ok (.if_icmp .ne 5, 3) := by decide +kernel
theorem d_Md_turn_53 : decode b_Md_turn 53 = .ok (.iload_n 3, 1) := by decide +kernel
theorem d_Md_turn_54 : decode b_Md_turn 54 = .ok (.istore_n 2, 1) := by decide +kernel
theorem d_Md_turn_55 : decode b_Md_turn 55 = .ok (.iinc 3 1, 3) := by decide +kernel
theorem d_Md_turn_58 : decode b_Md_turn 58 = .ok (.goto (-35), 3) := by decide +kernel
theorem d_Md_turn_61 : decode b_Md_turn 61 = .ok (.aload_n 0, 1) := by decide +kernel
theorem d_Md_turn_62 : decode b_Md_turn 62 = .ok (.aload_n 0, 1) := by decide +kernel
theorem d_Md_turn_63 : decode b_Md_turn 63 = .ok (.getfield 88, 3) := by decide +kernel
theorem d_Md_turn_66 : decode b_Md_turn 66 = .ok (.invokevirtual 269, 3) := by decide +kernel
theorem d_Md_turn_69 : decode b_Md_turn 69 = .ok (.iload_n 2, 1) := by decide +kernel
theorem d_Md_turn_70 : decode b_Md_turn 70 = .ok (.ireturn, 1) := by decide +kernel
theorem d_Md_empty_0 : decode b_Md_empty 0 = .ok (.aload_n 0, 1) := by decide +kernel
theorem d_Md_empty_1 : decode b_Md_empty 1 = .ok (.aload_n 0, 1) := by decide +kernel
theorem d_Md_empty_2 : decode b_Md_empty 2 = .ok (.getfield 88, 3) := by decide +kernel
theorem d_Md_empty_5 : decode b_Md_empty 5 = .ok (.invokevirtual 265, 3) := by decide +kernel
theorem d_Md_empty_8 : decode b_Md_empty 8 = .ok (.bipush (-5), 2) := by decide +kernel
theorem d_Md_empty_10 : decode b_Md_empty 10 = .ok (.istore_n 1, 1) := by decide +kernel
theorem d_Md_empty_11 : decode b_Md_empty 11 = .ok (.iconst 0, 1) := by decide +kernel
theorem d_Md_empty_12 : decode b_Md_empty 12 = .ok (.istore_n 2, 1) := by decide +kernel
theorem d_Md_empty_13 : decode b_Md_empty 13 = .ok (.iload_n 2, 1) := by decide +kernel
theorem d_Md_empty_14 : decode b_Md_empty 14 = .ok (.bipush 61, 2) := by decide +kernel
theorem d_Md_empty_16 : decode b_Md_empty 16 = .ok (.if_icmp .ge 36, 3) := by decide +kernel
theorem d_Md_empty_19 : decode b_Md_empty 19 = .ok (.iload_n 1, 1) := by decide +kernel
theorem d_Md_empty_20 : decode b_Md_empty 20 = .ok (.bipush (-5), 2) := by decide +kernel
theorem d_Md_empty_22 : decode b_Md_empty 22 = .ok (.if_icmp .ne 30, 3) := by decide +kernel
theorem d_Md_empty_25 : decode b_Md_empty 25 = .ok (.iload_n 2, 1) := by decide +kernel
theorem d_Md_empty_26 : decode b_Md_empty 26 = .ok (.ifCond .le 7, 3) := by decide +kernel
theorem d_Md_empty_29 : decode b_Md_empty 29 = .ok (.aload_n 0, 1) := by decide +kernel
theorem d_Md_empty_30 : decode b_Md_empty 30 = .ok (.invokevirtual 250, 3) := by decide +kernel
theorem d_Md_empty_33 : decode b_Md_empty 33 = .ok (.aload_n 0, 1) := by decide +kernel
theorem d_Md_empty_34 : decode b_Md_empty 34 = .ok (.invokevirtual 256, 3) := by decide +kernel
theorem d_Md_empty_37 : decode b_Md_empty 37 = .ok (.aload_n 0, 1) := by decide +kernel
theorem d_Md_empty_38 : decode b_Md_empty 38 = .ok (.getfield 117, 3) := by decide +kernel
theorem d_Md_empty_41 : decode b_Md_empty 41 = .ok (.if_icmp .ne 5, 3) := by decide +kernel
theorem d_Md_empty_44 : decode b_Md_empty 44 = .ok (.iload_n 2, 1) := by decide +kernel
theorem d_Md_empty_45 : decode b_Md_empty 45 = .ok (.istore_n 1, 1) := by decide +kernel
theorem d_Md_empty_46 : decode b_Md_empty 46 = .ok (.iinc 2 1, 3) := by decide +kernel
theorem d_Md_empty_49 : decode b_Md_empty 49 = .ok (.goto (-36), 3) := by decide +kernel
theorem d_Md_empty_52 : decode b_Md_empty 52 = .ok (.aload_n 0, 1) := by decide +kernel
theorem d_Md_empty_53 : decode b_Md_empty 53 = .ok (.aload_n 0, 1) := by decide +kernel
theorem d_Md_empty_54 : decode b_Md_empty 54 = .ok (.getfield 88, 3) := by decide +kernel
theorem d_Md_empty_57 : decode b_Md_empty 57 = .ok (.invokevirtual 269, 3) := by decide +kernel
theorem d_Md_empty_60 : decode b_Md_empty 60 = .ok (.iload_n 1, 1) := by decide +kernel
theorem d_Md_empty_61 : decode b_Md_empty 61 = .ok (.ireturn, 1) := by decide +kernel
theorem d_Md_looks_0 : decode b_Md_looks 0 = .ok (.aload_n 0, 1) := by decide +kernel
theorem d_Md_looks_1 : decode b_Md_looks 1 = .ok (.iconst 0, 1) := by decide +kernel
theorem d_Md_looks_2 : decode b_Md_looks 2 = .ok (.putfield 272, 3) := by decide +kernel
theorem d_Md_looks_5 : decode b_Md_looks 5 = .ok (.iconst 0, 1) := by decide +kernel
theorem d_Md_looks_6 : decode b_Md_looks 6 = .ok (.istore_n 1, 1) := by decide +kernel
theorem d_Md_looks_7 : decode b_Md_looks 7 = .ok (.iload_n 1, 1) := by decide +kernel
theorem d_Md_looks_8 : decode b_Md_looks 8 = .ok (.aload_n 0, 1) := by decide +kernel
theorem d_Md_looks_9 : decode b_Md_looks 9 = .ok (.getfield 117, 3) := by decide +kernel
theorem d_Md_looks_12 : decode b_Md_looks 12 = .ok (.if_icmp .ge 142, 3) := by decide +kernel
theorem d_Md_looks_15 : decode b_Md_looks 15 = .ok (.aload_n 0, 1) := by decide +kernel
theorem d_Md_looks_16 : decode b_Md_looks 16 = .ok (.getfield 27, 3) := by decide +kernel
theorem d_Md_looks_19 : decode b_Md_looks 19 = .ok (.iload_n 1, 1) := by decide +kernel
theorem d_Md_looks_20 : decode b_Md_looks 20 = .ok (.iaload, 1) := by decide +kernel
theorem d_Md_looks_21 : decode b_Md_looks 21 = .ok (.ifCond .ne 20, 3) := by decide +kernel
theorem d_Md_looks_24 : decode b_Md_looks 24 = .ok (.aload_n 0, 1) := by decide +kernel
theorem d_Md_looks_25 : decode b_Md_looks 25 = .ok (.getfield 94, 3) := by decide +kernel
theorem d_Md_looks_28 : decode b_Md_looks 28 = .ok (.aload_n 0, 1) := by decide +kernel
theorem d_Md_looks_29 : decode b_Md_looks 29 = .ok (.dup, 1) := by decide +kernel
theorem d_Md_looks_30 : decode b_Md_looks 30 = .ok (.getfield 272, 3) := by decide +kernel
theorem d_Md_looks_33 : decode b_Md_looks 33 = .ok (.dup_x1, 1) := by decide +kernel
theorem d_Md_looks_34 : decode b_Md_looks 34 = .ok (.iconst 1, 1) := by decide +kernel
theorem d_Md_looks_35 : decode b_Md_looks 35 = .ok (.iadd, 1) := by decide +kernel
theorem d_Md_looks_36 : decode b_Md_looks 36 = .ok (.putfield 272, 3) := by decide +kernel
theorem d_Md_looks_39 : decode b_Md_looks 39 = .ok (.iload_n 1, 1) := by decide +kernel
theorem d_Md_looks_40 : decode b_Md_looks 40 = .ok (.iastore, 1) := by decide +kernel
theorem d_Md_looks_41 : decode b_Md_looks 41 = .ok (.iconst 0, 1) := by decide +kernel
theorem d_Md_looks_42 : decode b_Md_looks 42 = .ok (.istore_n 2, 1) := by decide +kernel
theorem d_Md_looks_43 : decode b_Md_looks 43 = .ok (.aload_n 0, 1) := by decide +kernel
theorem d_Md_looks_44 : decode b_Md_looks 44 = .ok (.getfield 135, 3) := by decide +kernel
theorem d_Md_looks_47 : decode b_Md_looks 47 = .ok (.istore_n 3, 1) := by decide +kernel
theorem d_Md_looks_48 : decode b_Md_looks 48 = .ok (.iconst 0, 1) := by decide +kernel
theorem d_Md_looks_49 : decode b_Md_looks 49 = .ok (.istore 4, 2) := by decide +kernel
theorem d_Md_looks_51 : decode b_Md_looks 51 = .ok (.iload 4, 2) := by decide +kernel
theorem d_Md_looks_53 : decode b_Md_looks 53 = .ok (.bipush 6, 2) := by decide +kernel
theorem d_Md_looks_55 : decode b_Md_looks 55 = .ok (.if_icmp .ge 93, 3) := by decide +kernel
theorem d_Md_looks_58 : decode b_Md_looks 58 = .ok (.aload_n 0, 1) := by decide +kernel
theorem d_Md_looks_59 : decode b_Md_looks 59 = .ok (.iload_n 3, 1) := by decide +kernel
theorem d_Md_looks_60 : decode b_Md_looks 60 = .ok (.invokevirtual 241, 3) := by decide +kernel
theorem d_Md_looks_63 : decode b_Md_looks 63 = .ok (.ifCond .eq 36, 3) := by decide +kernel
theorem d_Md_looks_66 : decode b_Md_looks 66 = .ok (.iload_n 2, 1) := by decide +kernel
theorem d_Md_looks_67 : decode b_Md_looks 67 = .ok (.aload_n 0, 1) := by decide +kernel
theorem d_Md_looks_68 : decode b_Md_looks 68 = .ok (.iload_n 1, 1) := by decide +kernel
theorem d_Md_looks_69 : decode b_Md_looks 69 = .ok (.iload_n 3, 1) := by decide +kernel
theorem d_Md_looks_70 : decode b_Md_looks 70 = .ok (.bipush 99, 2) := by decide +kernel
theorem d_Md_looks_72 : decode b_Md_looks 72 = .ok (.aload_n 0, 1) := by decide +kernel
theorem d_Md_looks_73 : decode b_Md_looks 73 = .ok (.getfield 21, 3) := by decide +kernel
theorem d_Md_looks_76 : decode b_Md_looks 76 = .ok (.iload_n 1, 1) := by decide +kernel
theorem d_Md_looks_77 : decode b_Md_looks 77 = .ok (.iaload, 1) := by decide +kernel
theorem d_Md_looks_78 : decode b_Md_looks 78 = .ok (.iload_n 3, 1) := by decide +kernel
theorem d_Md_looks_79 : decode b_Md_looks 79 = .ok (.iadd, 1) := by decide +kernel
theorem d_Md_looks_80 : decode b_Md_looks 80 = .ok (.aload_n 0, 1) := by decide +kernel
theorem d_Md_looks_81 : decode b_Md_looks 81 = .ok (.getfield 135, 3) := by decide +kernel
theorem d_Md_looks_84 : decode b_Md_looks 84 = .ok (.isub, 1) := by decide +kernel
theorem d_Md_looks_85 : decode b_Md_looks 85 = .ok (.invokestatic 247, 3) := by decide +kernel
theorem d_Md_looks_88 : decode b_Md_looks 88 = .ok (.invokevirtual 138, 3) := by decide +kernel
theorem d_Md_looks_91 : decode b_Md_looks 91 = .ok (.iadd, 1) := by decide +kernel
theorem d_Md_looks_92 : decode b_Md_looks 92 = .ok (.istore_n 2, 1) := by decide +kernel
theorem d_Md_looks_93 : decode b_Md_looks 93 = .ok (.iinc 3 1, 3) := by decide +kernel
theorem d_Md_looks_96 : decode b_Md_looks 96 = .ok (.goto (-38), 3) := by decide +kernel
theorem d_Md_looks_99 : decode b_Md_looks 99 = .ok (.aload_n 0, 1) := by decide +kernel
theorem d_Md_looks_100 : decode b_Md_looks 100 = .ok (.getfield 91, 3) := by decide +kernel
theorem d_Md_looks_103 : decode b_Md_looks 103 = .ok (.bipush 6, 2) := by decide +kernel
theorem d_Md_looks_105 : decode b_Md_looks 105 = .ok (.iload_n 1, 1) := by decide +kernel
theorem d_Md_looks_106 : decode b_Md_looks 106 = .ok (.imul, 1) := by decide +kernel
theorem d_Md_looks_107 : decode b_Md_looks 107 = .ok (.iload 4, 2) := by decide +kernel
theorem d_Md_looks_109 : decode b_Md_looks 109 = .ok (.iadd, 1) := by decide +kernel
theorem d_Md_looks_110 : decode b_Md_looks 110 = .ok (.iload_n 2, 1) := by decide +kernel
theorem d_Md_looks_111 : decode b_Md_looks 111 = .ok (.iastore, 1) := by decide +kernel
theorem d_Md_looks_112 : decode b_Md_looks 112 = .ok (.iload_n 2, 1) := by decide +kernel
theorem d_Md_looks_113 : decode b_Md_looks 113 = .ok (.aload_n 0, 1) := by decide +kernel
theorem d_Md_looks_114 : decode b_Md_looks 114 = .ok (.iload_n 1, 1) := by decide +kernel
theorem d_Md_looks_115 : decode b_Md_looks 115 = .ok (.iload_n 3, 1) := by decide +kernel
theorem d_Md_looks_116 : decode b_Md_looks 116 = .ok (.bipush 99, 2) := by decide +kernel
theorem d_Md_looks_118 : decode b_Md_looks 118 = .ok (.aload_n 0, 1) := by decide +kernel
theorem d_Md_looks_119 : decode b_Md_looks 119 = .ok (.getfield 21, 3) := by decide +kernel
theorem d_Md_looks_122 : decode b_Md_looks 122 = .ok (.iload_n 1, 1) := by decide +kernel
theorem d_Md_looks_123 : decode b_Md_looks 123 = .ok (.iaload, 1) := by decide +kernel
theorem d_Md_looks_124 : decode b_Md_looks 124 = .ok (.iload_n 3, 1) := by decide +kernel
theorem d_Md_looks_125 : decode b_Md_looks 125 = .ok (.iadd, 1) := by decide +kernel
theorem d_Md_looks_126 : decode b_Md_looks 126 = .ok (.aload_n 0, 1) := by decide +kernel
theorem d_Md_looks_127 : decode b_Md_looks 127 = .ok (.getfield 135, 3) := by decide +kernel
theorem d_Md_looks_130 : decode b_Md_looks 130 = .ok (.isub, 1) := by decide +kernel
theorem d_Md_looks_131 : decode b_Md_looks 131 = .ok (.invokestatic 247, 3) := by decide +kernel
theorem d_Md_looks_134 : decode b_Md_looks 134 = .ok (.invokevirtual 138, 3) := by decide +kernel
theorem d_Md_looks_137 : decode b_Md_looks 137 = .ok (.iadd, 1) := by decide +kernel
theorem d_Md_looks_138 : decode b_Md_looks 138 = .ok (.istore_n 2, 1) := by decide +kernel
theorem d_Md_looks_139 : decode b_Md_looks 139 = .ok (.iinc 3 1, 3) := by decide +kernel
theorem d_Md_looks_142 : decode b_Md_looks 142 = .ok (.iinc 4 1, 3) := by decide +kernel
theorem d_Md_looks_145 : decode b_Md_looks 145 = .ok (.goto (-94), 3) := by decide +kernel
theorem d_Md_looks_148 : decode b_Md_looks 148 = .ok (.iinc 1 1, 3) := by decide +kernel
theorem d_Md_looks_151 : decode b_Md_looks 151 = .ok (.goto (-144), 3) := by decide +kernel
theorem d_Md_looks_154 : decode b_Md_looks 154 = .ok (.return_, 1) := by decide +kernel
theorem d_Md_tries_0 : decode b_Md_tries 0 = .ok (.iload_n 1, 1) := by decide +kernel
theorem d_Md_tries_1 : decode b_Md_tries 1 = .ok (.aload_n 0, 1) := by decide +kernel
theorem d_Md_tries_2 : decode b_Md_tries 2 = .ok (.getfield 272, 3) := by decide +kernel
theorem d_Md_tries_5 : decode b_Md_tries 5 = .ok (.if_icmp .ne 116, 3) := by decide +kernel
theorem d_Md_tries_8 : decode b_Md_tries 8 = .ok (.aload_n 0, 1) := by decide +kernel
theorem d_Md_tries_9 : decode b_Md_tries 9 = .ok (.dup, 1) := by decide +kernel
theorem d_Md_tries_10 : decode b_Md_tries 10 = .ok (.getfield 275, 3) := by decide +kernel
theorem d_Md_tries_13 : decode b_Md_tries 13 = .ok (.lconst 1, 1) := by decide +kernel
theorem d_Md_tries_14 : decode b_Md_tries 14 = .ok (.ladd, 1) := by decide +kernel
theorem d_Md_tries_15 : decode b_Md_tries 15 = .ok (.putfield 275, 3) := by decide +kernel
theorem d_Md_tries_18 : decode b_Md_tries 18 = .ok (.aload_n 0, 1) := by decide +kernel
theorem d_Md_tries_19 : decode b_Md_tries 19 = .ok (.dup, 1) := by decide +kernel
theorem d_Md_tries_20 : decode b_Md_tries 20 = .ok (.getfield 279, 3) := by decide +kernel
theorem d_Md_tries_23 : decode b_Md_tries 23 = .ok (.lload_n 3, 1) := by decide +kernel
theorem d_Md_tries_24 : decode b_Md_tries 24 = .ok (.ladd, 1) := by decide +kernel
theorem d_Md_tries_25 : decode b_Md_tries 25 = .ok (.putfield 279, 3) := by decide +kernel
theorem d_Md_tries_28 : decode b_Md_tries 28 = .ok (.lload_n 3, 1) := by decide +kernel
theorem d_Md_tries_29 : decode b_Md_tries 29 = .ok (.aload_n 0, 1) := by decide +kernel
theorem d_Md_tries_30 : decode b_Md_tries 30 = .ok (.getfield 282, 3) := by decide +kernel
theorem d_Md_tries_33 : decode b_Md_tries 33 = .ok (.lcmp, 1) := by decide +kernel
theorem d_Md_tries_34 : decode b_Md_tries 34 = .ok (.ifCond .gt 13, 3) := by decide +kernel
theorem d_Md_tries_37 : decode b_Md_tries 37 = .ok (.aload_n 0, 1) := by decide +kernel
theorem d_Md_tries_38 : decode b_Md_tries 38 = .ok (.dup, 1) := by decide +kernel
theorem d_Md_tries_39 : decode b_Md_tries 39 = .ok (.getfield 285, 3) := by decide +kernel
theorem d_Md_tries_42 : decode b_Md_tries 42 = .ok (.lconst 1, 1) := by decide +kernel
theorem d_Md_tries_43 : decode b_Md_tries 43 = .ok (.ladd, 1) := by decide +kernel
theorem d_Md_tries_44 : decode b_Md_tries 44 = .ok (.putfield 285, 3) := by decide +kernel
theorem d_Md_tries_47 : decode b_Md_tries 47 = .ok (.aload_n 0, 1) := by decide +kernel
theorem d_Md_tries_48 : decode b_Md_tries 48 = .ok (.getfield 288, 3) := by decide +kernel
theorem d_Md_tries_51 : decode b_Md_tries 51 = .ok (.ifCond .eq 8, 3) := by decide +kernel
theorem d_Md_tries_54 : decode b_Md_tries 54 = .ok (.lload 5, 2) := by decide +kernel
theorem d_Md_tries_56 : decode b_Md_tries 56 = .ok (.goto 4, 3) := by decide +kernel
theorem d_Md_tries_59 : decode b_Md_tries 59 = .ok (.lload_n 3, 1) := by decide +kernel
theorem d_Md_tries_60 : decode b_Md_tries 60 = .ok (.lstore 7, 2) := by decide +kernel
theorem d_Md_tries_62 : decode b_Md_tries 62 = .ok (.aload_n 0, 1) := by decide +kernel
theorem d_Md_tries_63 : decode b_Md_tries 63 = .ok (.getfield 292, 3) := by decide +kernel
theorem d_Md_tries_66 : decode b_Md_tries 66 = .ok (.lconst 0, 1) := by decide +kernel
theorem d_Md_tries_67 : decode b_Md_tries 67 = .ok (.lcmp, 1) := by decide +kernel
theorem d_Md_tries_68 : decode b_Md_tries 68 = .ok (.ifCond .lt 14, 3) := by decide +kernel
theorem d_Md_tries_71 : decode b_Md_tries 71 = .ok (.lload 7, 2) := by decide +kernel
theorem d_Md_tries_73 : decode b_Md_tries 73 = .ok (.aload_n 0, 1) := by decide +kernel
theorem d_Md_tries_74 : decode b_Md_tries 74 = .ok (.getfield 292, 3) := by decide +kernel
theorem d_Md_tries_77 : decode b_Md_tries 77 = .ok (.lcmp, 1) := by decide +kernel
theorem d_Md_tries_78 : decode b_Md_tries 78 = .ok (.ifCond .lt 4, 3) := by decide +kernel
theorem d_Md_tries_81 : decode b_Md_tries 81 = .ok (.return_, 1) := by decide +kernel
theorem d_Md_tries_82 : decode b_Md_tries 82 = .ok (.aload_n 0, 1) := by decide +kernel
theorem d_Md_tries_83 : decode b_Md_tries 83 = .ok (.lload 7, 2) := by decide +kernel
theorem d_Md_tries_85 : decode b_Md_tries 85 = .ok (.putfield 292, 3) := by decide +kernel
theorem d_Md_tries_88 : decode b_Md_tries 88 = .ok (.iconst 0, 1) := by decide +kernel
theorem d_Md_tries_89 : decode b_Md_tries 89 = .ok (.istore 9, 2) := by decide +kernel
theorem d_Md_tries_91 : decode b_Md_tries 91 = .ok (.iload 9, 2) := by decide +kernel
theorem d_Md_tries_93 : decode b_Md_tries 93 = .ok (.aload_n 0, 1) := by decide +kernel
theorem d_Md_tries_94 : decode b_Md_tries 94 = .ok (.getfield 272, 3) := by decide +kernel
theorem d_Md_tries_97 : decode b_Md_tries 97 = .ok (.if_icmp .ge 23, 3) := by decide +kernel
theorem d_Md_tries_100 : decode b_Md_tries 100 = .ok (.aload_n 0, 1) := by decide +kernel
theorem d_Md_tries_101 : decode b_Md_tries 101 = .ok (.getfield 100, 3) := by decide +kernel
theorem d_Md_tries_104 : decode b_Md_tries 104 = .ok (.iload 9, 2) := by decide +kernel
theorem d_Md_tries_106 : decode b_Md_tries 106 = .ok (.aload_n 0, 1) := by decide +kernel
theorem d_Md_tries_107 : decode b_Md_tries 107 = .ok (.getfield 97, 3) := by decide +kernel
theorem d_Md_tries_110 : decode b_Md_tries 110 = .ok (.iload 9, 2) := by decide +kernel
theorem d_Md_tries_112 : decode b_Md_tries 112 = .ok (.iaload, 1) := by decide +kernel
theorem d_Md_tries_113 : decode b_Md_tries 113 = .ok (.iastore, 1) := by decide +kernel
theorem d_Md_tries_114 : decode b_Md_tries 114 = .ok (.iinc 9 1, 3) := by decide +kernel
theorem d_Md_tries_117 : decode b_Md_tries 117 = .ok (.goto (-26), 3) := by decide +kernel
theorem d_Md_tries_120 : decode b_Md_tries 120 = .ok (.return_, 1) := by decide +kernel
theorem d_Md_tries_121 : decode b_Md_tries 121 = .ok (.iconst 0, 1) := by decide +kernel
theorem d_Md_tries_122 : decode b_Md_tries 122 = .ok (.istore 7, 2) := by decide +kernel
theorem d_Md_tries_124 : decode b_Md_tries 124 = .ok (.iload 7, 2) := by decide +kernel
theorem d_Md_tries_126 : decode b_Md_tries 126 = .ok (.aload_n 0, 1) := by decide +kernel
theorem d_Md_tries_127 : decode b_Md_tries 127 = .ok (.getfield 272, 3) := by decide +kernel
theorem d_Md_tries_130 : decode b_Md_tries 130 = .ok (.if_icmp .ge 80, 3) := by decide +kernel
theorem d_Md_tries_133 : decode b_Md_tries 133 = .ok (.iload_n 2, 1) := by decide +kernel
theorem d_Md_tries_134 : decode b_Md_tries 134 = .ok (.iload 7, 2) := by decide +kernel
theorem d_Md_tries_136 : decode b_Md_tries 136 = .ok (.ishr, 1) := by decide +kernel
theorem d_Md_tries_137 : decode b_Md_tries 137 = .ok (.iconst 1, 1) := by decide +kernel
theorem d_Md_tries_138 : decode b_Md_tries 138 = .ok (.iand, 1) := by decide +kernel
theorem d_Md_tries_139 : decode b_Md_tries 139 = .ok (.iconst 1, 1) := by decide +kernel
theorem d_Md_tries_140 : decode b_Md_tries 140 = .ok (.if_icmp .ne 6, 3) := by decide +kernel
theorem d_Md_tries_143 : decode b_Md_tries 143 = .ok (.goto 61, 3) := by decide +kernel
theorem d_Md_tries_146 : decode b_Md_tries 146 = .ok (.aload_n 0, 1) := by decide +kernel
theorem d_Md_tries_147 : decode b_Md_tries 147 = .ok (.getfield 97, 3) := by decide +kernel
theorem d_Md_tries_150 : decode b_Md_tries 150 = .ok (.iload_n 1, 1) := by decide +kernel
theorem d_Md_tries_151 : decode b_Md_tries 151 = .ok (.aload_n 0, 1) := by decide +kernel
theorem d_Md_tries_152 : decode b_Md_tries 152 = .ok (.getfield 94, 3) := by decide +kernel
theorem d_Md_tries_155 : decode b_Md_tries 155 = .ok (.iload 7, 2) := by decide +kernel
theorem d_Md_tries_157 : decode b_Md_tries 157 = .ok (.iaload, 1) := by decide +kernel
theorem d_Md_tries_158 : decode b_Md_tries 158 = .ok (.iastore, 1) := by decide +kernel
theorem d_Md_tries_159 : decode b_Md_tries 159 = .ok (.aload_n 0, 1) := by decide +kernel
theorem d_Md_tries_160 : decode b_Md_tries 160 = .ok (.getfield 91, 3) := by decide +kernel
theorem d_Md_tries_163 : decode b_Md_tries 163 = .ok (.bipush 6, 2) := by decide +kernel
theorem d_Md_tries_165 : decode b_Md_tries 165 = .ok (.aload_n 0, 1) := by decide +kernel
theorem d_Md_tries_166 : decode b_Md_tries 166 = .ok (.getfield 94, 3) := by decide +kernel
theorem d_Md_tries_169 : decode b_Md_tries 169 = .ok (.iload 7, 2) := by decide +kernel
theorem d_Md_tries_171 : decode b_Md_tries 171 = .ok (.iaload, 1) := by decide +kernel
theorem d_Md_tries_172 : decode b_Md_tries 172 = .ok (.imul, 1) := by decide +kernel
theorem d_Md_tries_173 : decode b_Md_tries 173 = .ok (.iload_n 1, 1) := by decide +kernel
theorem d_Md_tries_174 : decode b_Md_tries 174 = .ok (.iadd, 1) := by decide +kernel
theorem d_Md_tries_175 : decode b_Md_tries 175 = .ok (.iaload, 1) := by decide +kernel
theorem d_Md_tries_176 : decode b_Md_tries 176 = .ok (.istore 8, 2) := by decide +kernel
theorem d_Md_tries_178 : decode b_Md_tries 178 = .ok (.aload_n 0, 1) := by decide +kernel
theorem d_Md_tries_179 : decode b_Md_tries 179 = .ok (.iload_n 1, 1) := by decide +kernel
theorem d_Md_tries_180 : decode b_Md_tries 180 = .ok (.iconst 1, 1) := by decide +kernel
theorem d_Md_tries_181 : decode b_Md_tries 181 = .ok (.iadd, 1) := by decide +kernel
theorem d_Md_tries_182 : decode b_Md_tries 182 = .ok (.iload_n 2, 1) := by decide +kernel
theorem d_Md_tries_183 : decode b_Md_tries 183 = .ok (.iconst 1, 1) := by decide +kernel
theorem d_Md_tries_184 : decode b_Md_tries 184 = .ok (.iload 7, 2) := by decide +kernel
theorem d_Md_tries_186 : decode b_Md_tries 186 = .ok (.ishl, 1) := by decide +kernel
theorem d_Md_tries_187 : decode b_Md_tries 187 = .ok (.ior, 1) := by decide +kernel
theorem d_Md_tries_188 : decode b_Md_tries 188 = .ok (.lload_n 3, 1) := by decide +kernel
theorem d_Md_tries_189 : decode b_Md_tries 189 = .ok (.iload 8, 2) := by decide +kernel
theorem d_Md_tries_191 : decode b_Md_tries 191 = .ok (.i2l, 1) := by decide +kernel
theorem d_Md_tries_192 : decode b_Md_tries 192 = .ok (.ladd, 1) := by decide +kernel
theorem d_Md_tries_193 : decode b_Md_tries 193 = .ok (.lload 5, 2) := by decide +kernel
theorem d_Md_tries_195 : decode b_Md_tries 195 = .ok (.iload 8, 2) := by decide +kernel
theorem d_Md_tries_197 : decode b_Md_tries 197 = .ok (.i2l, 1) := by decide +kernel
theorem d_Md_tries_198 : decode b_Md_tries 198 = .ok (.invokestatic 295, 3) := by decide +kernel
theorem d_Md_tries_201 : decode b_Md_tries 201 = .ok (.invokevirtual 298, 3) := by decide +kernel
theorem d_Md_tries_204 : decode b_Md_tries 204 = .ok (.iinc 7 1, 3) := by decide +kernel
theorem d_Md_tries_207 : decode b_Md_tries 207 = .ok (.goto (-83), 3) := by decide +kernel
theorem d_Md_tries_210 : decode b_Md_tries 210 = .ok (.return_, 1) := by decide +kernel
theorem d_Md_allWays_0 : decode b_Md_allWays 0 = .ok (.aload_n 0, 1) := by decide +kernel
theorem d_Md_allWays_1 : decode b_Md_allWays 1 = .ok (.invokevirtual 302, 3) := by decide +kernel
theorem d_Md_allWays_4 : decode b_Md_allWays 4 = .ok (.aload_n 0, 1) := by decide +kernel
theorem d_Md_allWays_5 : decode b_Md_allWays 5 = .ok (.iload_n 1, 1) := by decide +kernel
theorem d_Md_allWays_6 : decode b_Md_allWays 6 = .ok (.putfield 288, 3) := by decide +kernel
theorem d_Md_allWays_9 : decode b_Md_allWays 9 = .ok (.aload_n 0, 1) := by decide +kernel
theorem d_Md_allWays_10 : decode b_Md_allWays 10 = .ok (.iload_n 2, 1) := by decide +kernel
theorem d_Md_allWays_11 : decode b_Md_allWays 11 = .ok (.i2l, 1) := by decide +kernel
theorem d_Md_allWays_12 : decode b_Md_allWays 12 = .ok (.putfield 282, 3) := by decide +kernel
theorem d_Md_allWays_15 : decode b_Md_allWays 15 = .ok (.aload_n 0, 1) := by decide +kernel
theorem d_Md_allWays_16 : decode b_Md_allWays 16 = .ok (.ldc2_w 305, 3) := by decide +kernel
theorem d_Md_allWays_19 : decode b_Md_allWays 19 = .ok (.putfield 292, 3) := by decide +kernel
theorem d_Md_allWays_22 : decode b_Md_allWays 22 = .ok (.aload_n 0, 1) := by decide +kernel
theorem d_Md_allWays_23 : decode b_Md_allWays 23 = .ok (.lconst 0, 1) := by decide +kernel
theorem d_Md_allWays_24 : decode b_Md_allWays 24 = .ok (.putfield 285, 3) := by decide +kernel
theorem d_Md_allWays_27 : decode b_Md_allWays 27 = .ok (.aload_n 0, 1) := by decide +kernel
theorem d_Md_allWays_28 : decode b_Md_allWays 28 = .ok (.lconst 0, 1) := by decide +kernel
theorem d_Md_allWays_29 : decode b_Md_allWays 29 = .ok (.putfield 275, 3) := by decide +kernel
theorem d_Md_allWays_32 : decode b_Md_allWays 32 = .ok (.aload_n 0, 1) := by decide +kernel
theorem d_Md_allWays_33 : decode b_Md_allWays 33 = .ok (.lconst 0, 1) := by decide +kernel
theorem d_Md_allWays_34 : decode b_Md_allWays 34 = .ok (.putfield 279, 3) := by decide +kernel
theorem d_Md_allWays_37 : decode b_Md_allWays 37 = .ok (.aload_n 0, 1) := by decide +kernel
theorem d_Md_allWays_38 : decode b_Md_allWays 38 = .ok (.iconst 0, 1) := by decide +kernel
theorem d_Md_allWays_39 : decode b_Md_allWays 39 = .ok (.iconst 0, 1) := by decide +kernel
theorem d_Md_allWays_40 : decode b_Md_allWays 40 = .ok (.lconst 0, 1) := by decide +kernel
theorem d_Md_allWays_41 : decode b_Md_allWays 41 = .ok (.lconst 0, 1) := by decide +kernel
theorem d_Md_allWays_42 : decode b_Md_allWays 42 = .ok (.invokevirtual 298, 3) := by decide +kernel
theorem d_Md_allWays_45 : decode b_Md_allWays 45 = .ok (.return_, 1) := by decide +kernel
theorem d_Md_best_0 : decode b_Md_best 0 = .ok (.iload_n 1, 1) := by decide +kernel
theorem d_Md_best_1 : decode b_Md_best 1 = .ok (.iconst 0, 1) := by decide +kernel
theorem d_Md_best_2 : decode b_Md_best 2 = .ok (.iconst 1, 1) := by decide +kernel
theorem d_Md_best_3 : decode b_Md_best 3 = .ok (.invokestatic 120, 3) := by decide +kernel
theorem d_Md_best_6 : decode b_Md_best 6 = .ok (.ifCond .eq 12, 3) := by decide +kernel
theorem d_Md_best_9 : decode b_Md_best 9 = .ok (.iload_n 2, 1) := by decide +kernel
theorem d_Md_best_10 : decode b_Md_best 10 = .ok (.iconst (-1), 1) := by decide +kernel
theorem d_Md_best_11 : decode b_Md_best 11 = .ok (.iconst 5, 1) := by decide +kernel
theorem d_Md_best_12 : decode b_Md_best 12 = .ok (.invokestatic 120, 3) := by decide +kernel
theorem d_Md_best_15 : decode b_Md_best 15 = .ok (.ifCond .ne 5, 3) := by decide +kernel
theorem d_Md_best_18 : decode b_Md_best 18 = .ok (.iconst (-1), 1) := by decide +kernel
theorem d_Md_best_19 : decode b_Md_best 19 = .ok (.ireturn, 1) := by decide +kernel
theorem d_Md_best_20 : decode b_Md_best 20 = .ok (.aload_n 0, 1) := by decide +kernel
theorem d_Md_best_21 : decode b_Md_best 21 = .ok (.iload_n 1, 1) := by decide +kernel
theorem d_Md_best_22 : decode b_Md_best 22 = .ok (.iconst 1, 1) := by decide +kernel
theorem d_Md_best_23 : decode b_Md_best 23 = .ok (.if_icmp .ne 7, 3) := by decide +kernel
theorem d_Md_best_26 : decode b_Md_best 26 = .ok (.iconst 1, 1) := by decide +kernel
theorem d_Md_best_27 : decode b_Md_best 27 = .ok (.goto 4, 3) := by decide +kernel
theorem d_Md_best_30 : decode b_Md_best 30 = .ok (.iconst 0, 1) := by decide +kernel
theorem d_Md_best_31 : decode b_Md_best 31 = .ok (.iconst 0, 1) := by decide +kernel
theorem d_Md_best_32 : decode b_Md_best 32 = .ok (.invokevirtual 307, 3) := by decide +kernel
theorem d_Md_best_35 : decode b_Md_best 35 = .ok (.iload_n 2, 1) := by decide +kernel
theorem d_Md_best_36 : decode b_Md_best 36 = .ok (.iconst (-1), 1) := by decide +kernel
theorem d_Md_best_37 : decode b_Md_best 37 = .ok (.if_icmp .ne 11, 3) := by decide +kernel
theorem d_Md_best_40 : decode b_Md_best 40 = .ok (.aload_n 0, 1) := by decide +kernel
theorem d_Md_best_41 : decode b_Md_best 41 = .ok (.getfield 292, 3) := by decide +kernel
theorem d_Md_best_44 : decode b_Md_best 44 = .ok (.l2i, 1) := by decide +kernel
theorem d_Md_best_45 : decode b_Md_best 45 = .ok (.goto 22, 3) := by decide +kernel
theorem d_Md_best_48 : decode b_Md_best 48 = .ok (.iload_n 2, 1) := by decide +kernel
theorem d_Md_best_49 : decode b_Md_best 49 = .ok (.aload_n 0, 1) := by decide +kernel
theorem d_Md_best_50 : decode b_Md_best 50 = .ok (.getfield 272, 3) := by decide +kernel
theorem d_Md_best_53 : decode b_Md_best 53 = .ok (.if_icmp .ge 12, 3) := by decide +kernel
theorem d_Md_best_56 : decode b_Md_best 56 = .ok (.aload_n 0, 1) := by decide +kernel
theorem d_Md_best_57 : decode b_Md_best 57 = .ok (.getfield 100, 3) := by decide +kernel
theorem d_Md_best_60 : decode b_Md_best 60 = .ok (.iload_n 2, 1) := by decide +kernel
theorem d_Md_best_61 : decode b_Md_best 61 = .ok (.iaload, 1) := by decide +kernel
theorem d_Md_best_62 : decode b_Md_best 62 = .ok (.goto 5, 3) := by decide +kernel
theorem d_Md_best_65 : decode b_Md_best 65 = .ok (.bipush (-5), 2) := by decide +kernel
theorem d_Md_best_67 : decode b_Md_best 67 = .ok (.ireturn, 1) := by decide +kernel
theorem d_Md_turnOf_0 : decode b_Md_turnOf 0 = .ok (.iconst 0, 1) := by decide +kernel
theorem d_Md_turnOf_1 : decode b_Md_turnOf 1 = .ok (.istore_n 2, 1) := by decide +kernel
theorem d_Md_turnOf_2 : decode b_Md_turnOf 2 = .ok (.iconst 0, 1) := by decide +kernel
theorem d_Md_turnOf_3 : decode b_Md_turnOf 3 = .ok (.istore_n 3, 1) := by decide +kernel
theorem d_Md_turnOf_4 : decode b_Md_turnOf 4 = .ok (.iload_n 3, 1) := by decide +kernel
theorem d_Md_turnOf_5 : decode b_Md_turnOf 5 = .ok (.aload_n 0, 1) := by decide +kernel
theorem d_Md_turnOf_6 : decode b_Md_turnOf 6 = .ok (.getfield 124, 3) := by decide +kernel
theorem d_Md_turnOf_9 : decode b_Md_turnOf 9 = .ok (.if_icmp .ge 52, 3) := by decide +kernel
theorem d_Md_turnOf_12 : decode b_Md_turnOf 12 = .ok (.aload_n 0, 1) := by decide +kernel
theorem d_Md_turnOf_13 : decode b_Md_turnOf 13 = .ok (.getfield 33, 3) := by decide +kernel
theorem d_Md_turnOf_16 : decode b_Md_turnOf 16 = .ok (.iload_n 3, 1) := by decide +kernel
theorem d_Md_turnOf_17 : decode b_Md_turnOf 17 = .ok (.iaload, 1) := by decide +kernel
theorem d_Md_turnOf_18 : decode b_Md_turnOf 18 = .ok (.iload_n 1, 1) := by decide +kernel
theorem d_Md_turnOf_19 : decode b_Md_turnOf 19 = .ok (.if_icmp .ne 19, 3) := by decide +kernel
theorem d_Md_turnOf_22 : decode b_Md_turnOf 22 = .ok (.aload_n 0, 1) := by decide +kernel
theorem d_Md_turnOf_23 : decode b_Md_turnOf 23 = .ok (.getfield 27, 3) := by decide +kernel
theorem d_Md_turnOf_26 : decode b_Md_turnOf 26 = .ok (.iload_n 1, 1) := by decide +kernel
theorem d_Md_turnOf_27 : decode b_Md_turnOf 27 = .ok (.iaload, 1) := by decide +kernel
theorem d_Md_turnOf_28 : decode b_Md_turnOf 28 = .ok (.ifCond .ne 7, 3) := by decide +kernel
theorem d_Md_turnOf_31 : decode b_Md_turnOf 31 = .ok (.iload_n 2, 1) := by decide +kernel
theorem d_Md_turnOf_32 : decode b_Md_turnOf 32 = .ok (.goto 5, 3) := by decide +kernel
theorem d_Md_turnOf_35 : decode b_Md_turnOf 35 = .ok (.bipush (-5), 2) := by decide +kernel
theorem d_Md_turnOf_37 : decode b_Md_turnOf 37 = .ok (.ireturn, 1) := by decide +kernel
theorem d_Md_turnOf_38 : decode b_Md_turnOf 38 = .ok (.aload_n 0, 1) := by decide +kernel
theorem d_Md_turnOf_39 : decode b_Md_turnOf 39 = .ok (.getfield 27, 3) := by decide +kernel
theorem d_Md_turnOf_42 : decode b_Md_turnOf 42 = .ok (.aload_n 0, 1) := by decide +kernel
theorem d_Md_turnOf_43 : decode b_Md_turnOf 43 = .ok (.getfield 33, 3) := by decide +kernel
theorem d_Md_turnOf_46 : decode b_Md_turnOf 46 = .ok (.iload_n 3, 1) := by decide +kernel
theorem d_Md_turnOf_47 : decode b_Md_turnOf 47 = .ok (.iaload, 1) := by decide +kernel
theorem d_Md_turnOf_48 : decode b_Md_turnOf 48 = .ok (.iaload, 1) := by decide +kernel
theorem d_Md_turnOf_49 : decode b_Md_turnOf 49 = .ok (.ifCond .ne 6, 3) := by decide +kernel
theorem d_Md_turnOf_52 : decode b_Md_turnOf 52 = .ok (.iinc 2 1, 3) := by decide +kernel
theorem d_Md_turnOf_55 : decode b_Md_turnOf 55 = .ok (.iinc 3 1, 3) := by decide +kernel
theorem d_Md_turnOf_58 : decode b_Md_turnOf 58 = .ok (.goto (-54), 3) := by decide +kernel
theorem d_Md_turnOf_61 : decode b_Md_turnOf 61 = .ok (.bipush (-5), 2) := by decide +kernel
theorem d_Md_turnOf_63 : decode b_Md_turnOf 63 = .ok (.ireturn, 1) := by decide +kernel
theorem d_Md_agreed_0 : decode b_Md_agreed 0 = .ok (.aload_n 0, 1) := by decide +kernel
theorem d_Md_agreed_1 : decode b_Md_agreed 1 = .ok (.invokevirtual 302, 3) := by decide +kernel
theorem d_Md_agreed_4 : decode b_Md_agreed 4 = .ok (.iconst 0, 1) := by decide +kernel
theorem d_Md_agreed_5 : decode b_Md_agreed 5 = .ok (.istore_n 1, 1) := by decide +kernel
theorem d_Md_agreed_6 : decode b_Md_agreed 6 = .ok (.iload_n 1, 1) := by decide +kernel
theorem d_Md_agreed_7 : decode b_Md_agreed 7 = .ok (.aload_n 0, 1) := by decide +kernel
theorem d_Md_agreed_8 : decode b_Md_agreed 8 = .ok (.getfield 117, 3) := by decide +kernel
theorem d_Md_agreed_11 : decode b_Md_agreed 11 = .ok (.if_icmp .ge 133, 3) := by decide +kernel
theorem d_Md_agreed_14 : decode b_Md_agreed 14 = .ok (.iload_n 1, 1) := by decide +kernel
theorem d_Md_agreed_15 : decode b_Md_agreed 15 = .ok (.iconst 1, 1) := by decide +kernel
theorem d_Md_agreed_16 : decode b_Md_agreed 16 = .ok (.iadd, 1) := by decide +kernel
theorem d_Md_agreed_17 : decode b_Md_agreed 17 = .ok (.istore_n 2, 1) := by decide +kernel
theorem d_Md_agreed_18 : decode b_Md_agreed 18 = .ok (.iload_n 2, 1) := by decide +kernel
theorem d_Md_agreed_19 : decode b_Md_agreed 19 = .ok (.aload_n 0, 1) := by decide +kernel
theorem d_Md_agreed_20 : decode b_Md_agreed 20 = .ok (.getfield 117, 3) := by decide +kernel
theorem d_Md_agreed_23 : decode b_Md_agreed 23 = .ok (.if_icmp .ge 115, 3) := by decide +kernel
theorem d_Md_agreed_26 : decode b_Md_agreed 26 = .ok (.aload_n 0, 1) := by decide +kernel
theorem d_Md_agreed_27 : decode b_Md_agreed 27 = .ok (.iload_n 1, 1) := by decide +kernel
theorem d_Md_agreed_28 : decode b_Md_agreed 28 = .ok (.invokevirtual 311, 3) := by decide +kernel
theorem d_Md_agreed_31 : decode b_Md_agreed 31 = .ok (.istore_n 3, 1) := by decide +kernel
theorem d_Md_agreed_32 : decode b_Md_agreed 32 = .ok (.aload_n 0, 1) := by decide +kernel
theorem d_Md_agreed_33 : decode b_Md_agreed 33 = .ok (.iload_n 2, 1) := by decide +kernel
theorem d_Md_agreed_34 : decode b_Md_agreed 34 = .ok (.invokevirtual 311, 3) := by decide +kernel
theorem d_Md_agreed_37 : decode b_Md_agreed 37 = .ok (.istore 4, 2) := by decide +kernel
theorem d_Md_agreed_39 : decode b_Md_agreed 39 = .ok (.iload_n 3, 1) := by decide +kernel
theorem d_Md_agreed_40 : decode b_Md_agreed 40 = .ok (.bipush (-5), 2) := by decide +kernel
theorem d_Md_agreed_42 : decode b_Md_agreed 42 = .ok (.if_icmp .eq 90, 3) := by decide +kernel
theorem d_Md_agreed_45 : decode b_Md_agreed 45 = .ok (.iload 4, 2) := by decide +kernel
theorem d_Md_agreed_47 : decode b_Md_agreed 47 = .ok (.bipush (-5), 2) := by decide +kernel
theorem d_Md_agreed_49 : decode b_Md_agreed 49 = .ok (.if_icmp .ne 6, 3) := by decide +kernel
theorem d_Md_agreed_52 : decode b_Md_agreed 52 = .ok (.goto 80, 3) := by decide +kernel
theorem d_Md_agreed_55 : decode b_Md_agreed 55 = .ok (.aload_n 0, 1) := by decide +kernel
theorem d_Md_agreed_56 : decode b_Md_agreed 56 = .ok (.getfield 91, 3) := by decide +kernel
theorem d_Md_agreed_59 : decode b_Md_agreed 59 = .ok (.bipush 6, 2) := by decide +kernel
theorem d_Md_agreed_61 : decode b_Md_agreed 61 = .ok (.iload_n 1, 1) := by decide +kernel
theorem d_Md_agreed_62 : decode b_Md_agreed 62 = .ok (.imul, 1) := by decide +kernel
theorem d_Md_agreed_63 : decode b_Md_agreed 63 = .ok (.iload 4, 2) := by decide +kernel
theorem d_Md_agreed_65 : decode b_Md_agreed 65 = .ok (.iadd, 1) := by decide +kernel
theorem d_Md_agreed_66 : decode b_Md_agreed 66 = .ok (.iaload, 1) := by decide +kernel
theorem d_Md_agreed_67 : decode b_Md_agreed 67 = .ok (.aload_n 0, 1) := by decide +kernel
theorem d_Md_agreed_68 : decode b_Md_agreed 68 = .ok (.getfield 91, 3) := by decide +kernel
theorem d_Md_agreed_71 : decode b_Md_agreed 71 = .ok (.bipush 6, 2) := by decide +kernel
theorem d_Md_agreed_73 : decode b_Md_agreed 73 = .ok (.iload_n 1, 1) := by decide +kernel
theorem d_Md_agreed_74 : decode b_Md_agreed 74 = .ok (.imul, 1) := by decide +kernel
theorem d_Md_agreed_75 : decode b_Md_agreed 75 = .ok (.iload_n 3, 1) := by decide +kernel
theorem d_Md_agreed_76 : decode b_Md_agreed 76 = .ok (.iadd, 1) := by decide +kernel
theorem d_Md_agreed_77 : decode b_Md_agreed 77 = .ok (.iaload, 1) := by decide +kernel
theorem d_Md_agreed_78 : decode b_Md_agreed 78 = .ok (.isub, 1) := by decide +kernel
theorem d_Md_agreed_79 : decode b_Md_agreed 79 = .ok (.istore 5, 2) := by decide +kernel
theorem d_Md_agreed_81 : decode b_Md_agreed 81 = .ok (.aload_n 0, 1) := by decide +kernel
theorem d_Md_agreed_82 : decode b_Md_agreed 82 = .ok (.getfield 91, 3) := by decide +kernel
theorem d_Md_agreed_85 : decode b_Md_agreed 85 = .ok (.bipush 6, 2) := by decide +kernel
theorem d_Md_agreed_87 : decode b_Md_agreed 87 = .ok (.iload_n 2, 1) := by decide +kernel
theorem d_Md_agreed_88 : decode b_Md_agreed 88 = .ok (.imul, 1) := by decide +kernel
theorem d_Md_agreed_89 : decode b_Md_agreed 89 = .ok (.iload_n 3, 1) := by decide +kernel
theorem d_Md_agreed_90 : decode b_Md_agreed 90 = .ok (.iadd, 1) := by decide +kernel
theorem d_Md_agreed_91 : decode b_Md_agreed 91 = .ok (.iaload, 1) := by decide +kernel
theorem d_Md_agreed_92 : decode b_Md_agreed 92 = .ok (.aload_n 0, 1) := by decide +kernel
theorem d_Md_agreed_93 : decode b_Md_agreed 93 = .ok (.getfield 91, 3) := by decide +kernel
theorem d_Md_agreed_96 : decode b_Md_agreed 96 = .ok (.bipush 6, 2) := by decide +kernel
theorem d_Md_agreed_98 : decode b_Md_agreed 98 = .ok (.iload_n 2, 1) := by decide +kernel
theorem d_Md_agreed_99 : decode b_Md_agreed 99 = .ok (.imul, 1) := by decide +kernel
theorem d_Md_agreed_100 : decode b_Md_agreed 100 = .ok (.iload 4, 2) := by decide +kernel
theorem d_Md_agreed_102 : decode b_Md_agreed 102 = .ok (.iadd, 1) := by decide +kernel
theorem d_Md_agreed_103 : decode b_Md_agreed 103 = .ok (.iaload, 1) := by decide +kernel
theorem d_Md_agreed_104 : decode b_Md_agreed 104 = .ok (.isub, 1) := by decide +kernel
theorem d_Md_agreed_105 : decode b_Md_agreed 105 = .ok (.istore 6, 2) := by decide +kernel
theorem d_Md_agreed_107 : decode b_Md_agreed 107 = .ok (.iload 5, 2) := by decide +kernel
theorem d_Md_agreed_109 : decode b_Md_agreed 109 = .ok (.ifCond .gt 23, 3) := by decide +kernel
theorem d_Md_agreed_112 : decode b_Md_agreed 112 = .ok (.iload 6, 2) := by decide +kernel
theorem d_Md_agreed_114 : decode b_Md_agreed 114 = .ok (.ifCond .gt 18, 3) := by decide +kernel
theorem d_Md_agreed_117 : decode b_Md_agreed 117 = .ok (.iload 5, 2) := by decide +kernel
theorem d_Md_agreed_119 : decode b_Md_agreed 119 = .ok (.iload 6, 2) := by decide +kernel
theorem d_Md_agreed_121 : decode b_Md_agreed 121 = .ok (.iadd, 1) := by decide +kernel
theorem d_Md_agreed_122 : decode b_Md_agreed 122 = .ok (.ifCond .ge 10, 3) := by decide +kernel
theorem d_Md_agreed_125 : decode b_Md_agreed 125 = .ok (.bipush 10, 2) := by decide +kernel
theorem d_Md_agreed_127 : decode b_Md_agreed 127 = .ok (.iload_n 1, 1) := by decide +kernel
theorem d_Md_agreed_128 : decode b_Md_agreed 128 = .ok (.imul, 1) := by decide +kernel
theorem d_Md_agreed_129 : decode b_Md_agreed 129 = .ok (.iload_n 2, 1) := by decide +kernel
theorem d_Md_agreed_130 : decode b_Md_agreed 130 = .ok (.iadd, 1) := by decide +kernel
theorem d_Md_agreed_131 : decode b_Md_agreed 131 = .ok (.ireturn, 1) := by decide +kernel
theorem d_Md_agreed_132 : decode b_Md_agreed 132 = .ok (.iinc 2 1, 3) := by decide +kernel
theorem d_Md_agreed_135 : decode b_Md_agreed 135 = .ok (.goto (-117), 3) := by decide +kernel
theorem d_Md_agreed_138 : decode b_Md_agreed 138 = .ok (.iinc 1 1, 3) := by decide +kernel
theorem d_Md_agreed_141 : decode b_Md_agreed 141 = .ok (.goto (-135), 3) := by decide +kernel
theorem d_Md_agreed_144 : decode b_Md_agreed 144 = .ok (.bipush (-5), 2) := by decide +kernel
theorem d_Md_agreed_146 : decode b_Md_agreed 146 = .ok (.ireturn, 1) := by decide +kernel
theorem d_Md_dear_0 : decode b_Md_dear 0 = .ok (.aload_n 0, 1) := by decide +kernel
theorem d_Md_dear_1 : decode b_Md_dear 1 = .ok (.invokevirtual 302, 3) := by decide +kernel
theorem d_Md_dear_4 : decode b_Md_dear 4 = .ok (.bipush (-5), 2) := by decide +kernel
theorem d_Md_dear_6 : decode b_Md_dear 6 = .ok (.istore_n 2, 1) := by decide +kernel
theorem d_Md_dear_7 : decode b_Md_dear 7 = .ok (.bipush (-5), 2) := by decide +kernel
theorem d_Md_dear_9 : decode b_Md_dear 9 = .ok (.istore_n 3, 1) := by decide +kernel
theorem d_Md_dear_10 : decode b_Md_dear 10 = .ok (.iconst 0, 1) := by decide +kernel
theorem d_Md_dear_11 : decode b_Md_dear 11 = .ok (.istore 4, 2) := by decide +kernel
theorem d_Md_dear_13 : decode b_Md_dear 13 = .ok (.iload 4, 2) := by decide +kernel
theorem d_Md_dear_15 : decode b_Md_dear 15 = .ok (.aload_n 0, 1) := by decide +kernel
theorem d_Md_dear_16 : decode b_Md_dear 16 = .ok (.getfield 272, 3) := by decide +kernel
theorem d_Md_dear_19 : decode b_Md_dear 19 = .ok (.if_icmp .ge 69, 3) := by decide +kernel
theorem d_Md_dear_22 : decode b_Md_dear 22 = .ok (.aload_n 0, 1) := by decide +kernel
theorem d_Md_dear_23 : decode b_Md_dear 23 = .ok (.getfield 94, 3) := by decide +kernel
theorem d_Md_dear_26 : decode b_Md_dear 26 = .ok (.iload 4, 2) := by decide +kernel
theorem d_Md_dear_28 : decode b_Md_dear 28 = .ok (.iaload, 1) := by decide +kernel
theorem d_Md_dear_29 : decode b_Md_dear 29 = .ok (.istore 5, 2) := by decide +kernel
theorem d_Md_dear_31 : decode b_Md_dear 31 = .ok (.aload_n 0, 1) := by decide +kernel
theorem d_Md_dear_32 : decode b_Md_dear 32 = .ok (.getfield 91, 3) := by decide +kernel
theorem d_Md_dear_35 : decode b_Md_dear 35 = .ok (.bipush 6, 2) := by decide +kernel
theorem d_Md_dear_37 : decode b_Md_dear 37 = .ok (.iload 5, 2) := by decide +kernel
theorem d_Md_dear_39 : decode b_Md_dear 39 = .ok (.imul, 1) := by decide +kernel
theorem d_Md_dear_40 : decode b_Md_dear 40 = .ok (.aload_n 0, 1) := by decide +kernel
theorem d_Md_dear_41 : decode b_Md_dear 41 = .ok (.getfield 272, 3) := by decide +kernel
theorem d_Md_dear_44 : decode b_Md_dear 44 = .ok (.iadd, 1) := by decide +kernel
theorem d_Md_dear_45 : decode b_Md_dear 45 = .ok (.iconst 1, 1) := by decide +kernel
theorem d_Md_dear_46 : decode b_Md_dear 46 = .ok (.isub, 1) := by decide +kernel
theorem d_Md_dear_47 : decode b_Md_dear 47 = .ok (.iaload, 1) := by decide +kernel
theorem d_Md_dear_48 : decode b_Md_dear 48 = .ok (.aload_n 0, 1) := by decide +kernel
theorem d_Md_dear_49 : decode b_Md_dear 49 = .ok (.getfield 91, 3) := by decide +kernel
theorem d_Md_dear_52 : decode b_Md_dear 52 = .ok (.bipush 6, 2) := by decide +kernel
theorem d_Md_dear_54 : decode b_Md_dear 54 = .ok (.iload 5, 2) := by decide +kernel
theorem d_Md_dear_56 : decode b_Md_dear 56 = .ok (.imul, 1) := by decide +kernel
theorem d_Md_dear_57 : decode b_Md_dear 57 = .ok (.iaload, 1) := by decide +kernel
theorem d_Md_dear_58 : decode b_Md_dear 58 = .ok (.isub, 1) := by decide +kernel
theorem d_Md_dear_59 : decode b_Md_dear 59 = .ok (.istore 6, 2) := by decide +kernel
theorem d_Md_dear_61 : decode b_Md_dear 61 = .ok (.iload_n 2, 1) := by decide +kernel
theorem d_Md_dear_62 : decode b_Md_dear 62 = .ok (.bipush (-5), 2) := by decide +kernel
theorem d_Md_dear_64 : decode b_Md_dear 64 = .ok (.if_icmp .eq 12, 3) := by decide +kernel
theorem d_Md_dear_67 : decode b_Md_dear 67 = .ok (.iload 6, 2) := by decide +kernel
theorem d_Md_dear_69 : decode b_Md_dear 69 = .ok (.iload_n 3, 1) := by decide +kernel
theorem d_Md_dear_70 : decode b_Md_dear 70 = .ok (.if_icmp .gt 6, 3) := by decide +kernel
theorem d_Md_dear_73 : decode b_Md_dear 73 = .ok (.goto 9, 3) := by decide +kernel
theorem d_Md_dear_76 : decode b_Md_dear 76 = .ok (.iload 6, 2) := by decide +kernel
theorem d_Md_dear_78 : decode b_Md_dear 78 = .ok (.istore_n 3, 1) := by decide +kernel
theorem d_Md_dear_79 : decode b_Md_dear 79 = .ok (.iload 5, 2) := by decide +kernel
theorem d_Md_dear_81 : decode b_Md_dear 81 = .ok (.istore_n 2, 1) := by decide +kernel
theorem d_Md_dear_82 : decode b_Md_dear 82 = .ok (.iinc 4 1, 3) := by decide +kernel
theorem d_Md_dear_85 : decode b_Md_dear 85 = .ok (.goto (-72), 3) := by decide +kernel
theorem d_Md_dear_88 : decode b_Md_dear 88 = .ok (.iload_n 1, 1) := by decide +kernel
theorem d_Md_dear_89 : decode b_Md_dear 89 = .ok (.ifCond .ne 7, 3) := by decide +kernel
theorem d_Md_dear_92 : decode b_Md_dear 92 = .ok (.iload_n 2, 1) := by decide +kernel
theorem d_Md_dear_93 : decode b_Md_dear 93 = .ok (.goto 4, 3) := by decide +kernel
theorem d_Md_dear_96 : decode b_Md_dear 96 = .ok (.iload_n 3, 1) := by decide +kernel
theorem d_Md_dear_97 : decode b_Md_dear 97 = .ok (.ireturn, 1) := by decide +kernel
theorem d_Md_see_0 : decode b_Md_see 0 = .ok (.iload_n 1, 1) := by decide +kernel
theorem d_Md_see_1 : decode b_Md_see 1 = .ok (.iconst (-1), 1) := by decide +kernel
theorem d_Md_see_2 : decode b_Md_see 2 = .ok (.if_icmp .ne 10, 3) := by decide +kernel
theorem d_Md_see_5 : decode b_Md_see 5 = .ok (.aload_n 0, 1) := by decide +kernel
theorem d_Md_see_6 : decode b_Md_see 6 = .ok (.iconst 0, 1) := by decide +kernel
theorem d_Md_see_7 : decode b_Md_see 7 = .ok (.putfield 314, 3) := by decide +kernel
theorem d_Md_see_10 : decode b_Md_see 10 = .ok (.iconst 0, 1) := by decide +kernel
theorem d_Md_see_11 : decode b_Md_see 11 = .ok (.ireturn, 1) := by decide +kernel
theorem d_Md_see_12 : decode b_Md_see 12 = .ok (.aload_n 0, 1) := by decide +kernel
theorem d_Md_see_13 : decode b_Md_see 13 = .ok (.iload_n 1, 1) := by decide +kernel
theorem d_Md_see_14 : decode b_Md_see 14 = .ok (.invokevirtual 127, 3) := by decide +kernel
theorem d_Md_see_17 : decode b_Md_see 17 = .ok (.ifCond .ne 5, 3) := by decide +kernel
theorem d_Md_see_20 : decode b_Md_see 20 = .ok (.iconst (-1), 1) := by decide +kernel
theorem d_Md_see_21 : decode b_Md_see 21 = .ok (.ireturn, 1) := by decide +kernel
theorem d_Md_see_22 : decode b_Md_see 22 = .ok (.iload_n 2, 1) := by decide +kernel
theorem d_Md_see_23 : decode b_Md_see 23 = .ok (.iconst 0, 1) := by decide +kernel
theorem d_Md_see_24 : decode b_Md_see 24 = .ok (.sipush 999, 3) := by decide +kernel
theorem d_Md_see_27 : decode b_Md_see 27 = .ok (.invokestatic 120, 3) := by decide +kernel
theorem d_Md_see_30 : decode b_Md_see 30 = .ok (.ifCond .eq 13, 3) := by decide +kernel
theorem d_Md_see_33 : decode b_Md_see 33 = .ok (.iload_n 3, 1) := by decide +kernel
theorem d_Md_see_34 : decode b_Md_see 34 = .ok (.iconst 0, 1) := by decide +kernel
theorem d_Md_see_35 : decode b_Md_see 35 = .ok (.bipush 20, 2) := by decide +kernel
theorem d_Md_see_37 : decode b_Md_see 37 = .ok (.invokestatic 120, 3) := by decide +kernel
theorem d_Md_see_40 : decode b_Md_see 40 = .ok (.ifCond .ne 6, 3) := by decide +kernel
theorem d_Md_see_43 : decode b_Md_see 43 = .ok (.bipush (-2), 2) := by decide +kernel
theorem d_Md_see_45 : decode b_Md_see 45 = .ok (.ireturn, 1) := by decide +kernel
theorem d_Md_see_46 : decode b_Md_see 46 = .ok (.aload_n 0, 1) := by decide +kernel
theorem d_Md_see_47 : decode b_Md_see 47 = .ok (.getfield 314, 3) := by decide +kernel
theorem d_Md_see_50 : decode b_Md_see 50 = .ok (.iconst 5, 1) := by decide +kernel
theorem d_Md_see_51 : decode b_Md_see 51 = .ok (.if_icmp .ne 6, 3) := by decide +kernel
theorem d_Md_see_54 : decode b_Md_see 54 = .ok (.bipush (-4), 2) := by decide +kernel
theorem d_Md_see_56 : decode b_Md_see 56 = .ok (.ireturn, 1) := by decide +kernel
theorem d_Md_see_57 : decode b_Md_see 57 = .ok (.aload_n 0, 1) := by decide +kernel
theorem d_Md_see_58 : decode b_Md_see 58 = .ok (.getfield 61, 3) := by decide +kernel
theorem d_Md_see_61 : decode b_Md_see 61 = .ok (.aload_n 0, 1) := by decide +kernel
theorem d_Md_see_62 : decode b_Md_see 62 = .ok (.getfield 314, 3) := by decide +kernel
theorem d_Md_see_65 : decode b_Md_see 65 = .ok (.iload_n 1, 1) := by decide +kernel
theorem d_Md_see_66 : decode b_Md_see 66 = .ok (.iastore, 1) := by decide +kernel
theorem d_Md_see_67 : decode b_Md_see 67 = .ok (.aload_n 0, 1) := by decide +kernel
theorem d_Md_see_68 : decode b_Md_see 68 = .ok (.getfield 64, 3) := by decide +kernel
theorem d_Md_see_71 : decode b_Md_see 71 = .ok (.aload_n 0, 1) := by decide +kernel
theorem d_Md_see_72 : decode b_Md_see 72 = .ok (.getfield 314, 3) := by decide +kernel
theorem d_Md_see_75 : decode b_Md_see 75 = .ok (.iload_n 2, 1) := by decide +kernel
theorem d_Md_see_76 : decode b_Md_see 76 = .ok (.iastore, 1) := by decide +kernel
theorem d_Md_see_77 : decode b_Md_see 77 = .ok (.aload_n 0, 1) := by decide +kernel
theorem d_Md_see_78 : decode b_Md_see 78 = .ok (.getfield 67, 3) := by decide +kernel
theorem d_Md_see_81 : decode b_Md_see 81 = .ok (.aload_n 0, 1) := by decide +kernel
theorem d_Md_see_82 : decode b_Md_see 82 = .ok (.dup, 1) := by decide +kernel
theorem d_Md_see_83 : decode b_Md_see 83 = .ok (.getfield 314, 3) := by decide +kernel
theorem d_Md_see_86 : decode b_Md_see 86 = .ok (.dup_x1, 1) := by decide +kernel
theorem d_Md_see_87 : decode b_Md_see 87 = .ok (.iconst 1, 1) := by decide +kernel
theorem d_Md_see_88 : decode b_Md_see 88 = .ok (.iadd, 1) := by decide +kernel
theorem d_Md_see_89 : decode b_Md_see 89 = .ok (.putfield 314, 3) := by decide +kernel
theorem d_Md_see_92 : decode b_Md_see 92 = .ok (.iload_n 3, 1) := by decide +kernel
theorem d_Md_see_93 : decode b_Md_see 93 = .ok (.iastore, 1) := by decide +kernel
theorem d_Md_see_94 : decode b_Md_see 94 = .ok (.aload_n 0, 1) := by decide +kernel
theorem d_Md_see_95 : decode b_Md_see 95 = .ok (.getfield 314, 3) := by decide +kernel
theorem d_Md_see_98 : decode b_Md_see 98 = .ok (.ireturn, 1) := by decide +kernel
theorem d_Md_isSeen_0 : decode b_Md_isSeen 0 = .ok (.iconst 0, 1) := by decide +kernel
theorem d_Md_isSeen_1 : decode b_Md_isSeen 1 = .ok (.istore_n 2, 1) := by decide +kernel
theorem d_Md_isSeen_2 : decode b_Md_isSeen 2 = .ok (.iload_n 2, 1) := by decide +kernel
theorem d_Md_isSeen_3 : decode b_Md_isSeen 3 = .ok (.aload_n 0, 1) := by decide +kernel
theorem d_Md_isSeen_4 : decode b_Md_isSeen 4 = .ok (.getfield 314, 3) := by decide +kernel
theorem d_Md_isSeen_7 : decode b_Md_isSeen 7 = .ok (.if_icmp .ge 64, 3) := by decide +kernel
theorem d_Md_isSeen_10 : decode b_Md_isSeen 10 = .ok (.aload_n 0, 1) := by decide +kernel
theorem d_Md_isSeen_11 : decode b_Md_isSeen 11 = .ok (.getfield 61, 3) := by decide +kernel
theorem d_Md_isSeen_14 : decode b_Md_isSeen 14 = .ok (.iload_n 2, 1) := by decide +kernel
theorem d_Md_isSeen_15 : decode b_Md_isSeen 15 = .ok (.iaload, 1) := by decide +kernel
theorem d_Md_isSeen_16 : decode b_Md_isSeen 16 = .ok (.iload_n 1, 1) := by decide +kernel
theorem d_Md_isSeen_17 : decode b_Md_isSeen 17 = .ok (.if_icmp .ne 48, 3) := by decide +kernel
theorem d_Md_isSeen_20 : decode b_Md_isSeen 20 = .ok (.aload_n 0, 1) := by decide +kernel
theorem d_Md_isSeen_21 : decode b_Md_isSeen 21 = .ok (.iload_n 1, 1) := by decide +kernel
theorem d_Md_isSeen_22 : decode b_Md_isSeen 22 = .ok (.aload_n 0, 1) := by decide +kernel
theorem d_Md_isSeen_23 : decode b_Md_isSeen 23 = .ok (.getfield 135, 3) := by decide +kernel
theorem d_Md_isSeen_26 : decode b_Md_isSeen 26 = .ok (.aload_n 0, 1) := by decide +kernel
theorem d_Md_isSeen_27 : decode b_Md_isSeen 27 = .ok (.getfield 67, 3) := by decide +kernel
theorem d_Md_isSeen_30 : decode b_Md_isSeen 30 = .ok (.iload_n 2, 1) := by decide +kernel
theorem d_Md_isSeen_31 : decode b_Md_isSeen 31 = .ok (.iaload, 1) := by decide +kernel
theorem d_Md_isSeen_32 : decode b_Md_isSeen 32 = .ok (.iadd, 1) := by decide +kernel
theorem d_Md_isSeen_33 : decode b_Md_isSeen 33 = .ok (.bipush 99, 2) := by decide +kernel
theorem d_Md_isSeen_35 : decode b_Md_isSeen 35 = .ok (.aload_n 0, 1) := by decide +kernel
theorem d_Md_isSeen_36 : decode b_Md_isSeen 36 = .ok (.getfield 21, 3) := by decide +kernel
theorem d_Md_isSeen_39 : decode b_Md_isSeen 39 = .ok (.iload_n 1, 1) := by decide +kernel
theorem d_Md_isSeen_40 : decode b_Md_isSeen 40 = .ok (.iaload, 1) := by decide +kernel
theorem d_Md_isSeen_41 : decode b_Md_isSeen 41 = .ok (.aload_n 0, 1) := by decide +kernel
theorem d_Md_isSeen_42 : decode b_Md_isSeen 42 = .ok (.getfield 67, 3) := by decide +kernel
theorem d_Md_isSeen_45 : decode b_Md_isSeen 45 = .ok (.iload_n 2, 1) := by decide +kernel
theorem d_Md_isSeen_46 : decode b_Md_isSeen 46 = .ok (.iaload, 1) := by decide +kernel
theorem d_Md_isSeen_47 : decode b_Md_isSeen 47 = .ok (.iadd, 1) := by decide +kernel
theorem d_Md_isSeen_48 : decode b_Md_isSeen 48 = .ok (.invokestatic 247, 3) := by decide +kernel
theorem d_Md_isSeen_51 : decode b_Md_isSeen 51 = .ok (.invokevirtual 138, 3) := by decide +kernel
theorem d_Md_isSeen_54 : decode b_Md_isSeen 54 = .ok (.aload_n 0, 1) := by decide +kernel
theorem d_Md_isSeen_55 : decode b_Md_isSeen 55 = .ok (.getfield 64, 3) := by decide +kernel
theorem d_Md_isSeen_58 : decode b_Md_isSeen 58 = .ok (.iload_n 2, 1) := by decide +kernel
theorem d_Md_isSeen_59 : decode b_Md_isSeen 59 = .ok (.iaload, 1) := by decide +kernel
theorem d_Md_isSeen_60 : decode b_Md_isSeen 60 = .ok (.if_icmp .eq 5, 3) := by decide +kernel
theorem d_Md_isSeen_63 : decode b_Md_isSeen 63 = .ok (.iconst 0, 1) := by decide +kernel
theorem d_Md_isSeen_64 : decode b_Md_isSeen 64 = .ok (.ireturn, 1) := by decide +kernel
theorem d_Md_isSeen_65 : decode b_Md_isSeen 65 = .ok (.iinc 2 1, 3) := by decide +kernel
theorem d_Md_isSeen_68 : decode b_Md_isSeen 68 = .ok (.goto (-66), 3) := by decide +kernel
theorem d_Md_isSeen_71 : decode b_Md_isSeen 71 = .ok (.iconst 1, 1) := by decide +kernel
theorem d_Md_isSeen_72 : decode b_Md_isSeen 72 = .ok (.ireturn, 1) := by decide +kernel
theorem d_Md_getOf_0 : decode b_Md_getOf 0 = .ok (.iload_n 2, 1) := by decide +kernel
theorem d_Md_getOf_1 : decode b_Md_getOf 1 = .ok (.ifCond .ne 12, 3) := by decide +kernel
theorem d_Md_getOf_4 : decode b_Md_getOf 4 = .ok (.aload_n 0, 1) := by decide +kernel
theorem d_Md_getOf_5 : decode b_Md_getOf 5 = .ok (.getfield 18, 3) := by decide +kernel
theorem d_Md_getOf_8 : decode b_Md_getOf 8 = .ok (.iload_n 1, 1) := by decide +kernel
theorem d_Md_getOf_9 : decode b_Md_getOf 9 = .ok (.iaload, 1) := by decide +kernel
theorem d_Md_getOf_10 : decode b_Md_getOf 10 = .ok (.goto 23, 3) := by decide +kernel
theorem d_Md_getOf_13 : decode b_Md_getOf 13 = .ok (.iload_n 2, 1) := by decide +kernel
theorem d_Md_getOf_14 : decode b_Md_getOf 14 = .ok (.iconst 1, 1) := by decide +kernel
theorem d_Md_getOf_15 : decode b_Md_getOf 15 = .ok (.if_icmp .ne 12, 3) := by decide +kernel
theorem d_Md_getOf_18 : decode b_Md_getOf 18 = .ok (.aload_n 0, 1) := by decide +kernel
theorem d_Md_getOf_19 : decode b_Md_getOf 19 = .ok (.getfield 21, 3) := by decide +kernel
theorem d_Md_getOf_22 : decode b_Md_getOf 22 = .ok (.iload_n 1, 1) := by decide +kernel
theorem d_Md_getOf_23 : decode b_Md_getOf 23 = .ok (.iaload, 1) := by decide +kernel
theorem d_Md_getOf_24 : decode b_Md_getOf 24 = .ok (.goto 9, 3) := by decide +kernel
theorem d_Md_getOf_27 : decode b_Md_getOf 27 = .ok (.aload_n 0, 1) := by decide +kernel
theorem d_Md_getOf_28 : decode b_Md_getOf 28 = .ok (.getfield 15, 3) := by decide +kernel
theorem d_Md_getOf_31 : decode b_Md_getOf 31 = .ok (.iload_n 1, 1) := by decide +kernel
theorem d_Md_getOf_32 : decode b_Md_getOf 32 = .ok (.iaload, 1) := by decide +kernel
theorem d_Md_getOf_33 : decode b_Md_getOf 33 = .ok (.ireturn, 1) := by decide +kernel
theorem d_Md_setOf_0 : decode b_Md_setOf 0 = .ok (.iload_n 2, 1) := by decide +kernel
theorem d_Md_setOf_1 : decode b_Md_setOf 1 = .ok (.ifCond .ne 13, 3) := by decide +kernel
theorem d_Md_setOf_4 : decode b_Md_setOf 4 = .ok (.aload_n 0, 1) := by decide +kernel
theorem d_Md_setOf_5 : decode b_Md_setOf 5 = .ok (.getfield 18, 3) := by decide +kernel
theorem d_Md_setOf_8 : decode b_Md_setOf 8 = .ok (.iload_n 1, 1) := by decide +kernel
theorem d_Md_setOf_9 : decode b_Md_setOf 9 = .ok (.iload_n 3, 1) := by decide +kernel
theorem d_Md_setOf_10 : decode b_Md_setOf 10 = .ok (.iastore, 1) := by decide +kernel
theorem d_Md_setOf_11 : decode b_Md_setOf 11 = .ok (.goto 25, 3) := by decide +kernel
theorem d_Md_setOf_14 : decode b_Md_setOf 14 = .ok (.iload_n 2, 1) := by decide +kernel
theorem d_Md_setOf_15 : decode b_Md_setOf 15 = .ok (.iconst 1, 1) := by decide +kernel
theorem d_Md_setOf_16 : decode b_Md_setOf 16 = .ok (.if_icmp .ne 13, 3) := by decide +kernel
theorem d_Md_setOf_19 : decode b_Md_setOf 19 = .ok (.aload_n 0, 1) := by decide +kernel
theorem d_Md_setOf_20 : decode b_Md_setOf 20 = .ok (.getfield 21, 3) := by decide +kernel
theorem d_Md_setOf_23 : decode b_Md_setOf 23 = .ok (.iload_n 1, 1) := by decide +kernel
theorem d_Md_setOf_24 : decode b_Md_setOf 24 = .ok (.iload_n 3, 1) := by decide +kernel
theorem d_Md_setOf_25 : decode b_Md_setOf 25 = .ok (.iastore, 1) := by decide +kernel
theorem d_Md_setOf_26 : decode b_Md_setOf 26 = .ok (.goto 10, 3) := by decide +kernel
theorem d_Md_setOf_29 : decode b_Md_setOf 29 = .ok (.aload_n 0, 1) := by decide +kernel
theorem d_Md_setOf_30 : decode b_Md_setOf 30 = .ok (.getfield 15, 3) := by decide +kernel
theorem d_Md_setOf_33 : decode b_Md_setOf 33 = .ok (.iload_n 1, 1) := by decide +kernel
theorem d_Md_setOf_34 : decode b_Md_setOf 34 = .ok (.iload_n 3, 1) := by decide +kernel
theorem d_Md_setOf_35 : decode b_Md_setOf 35 = .ok (.iastore, 1) := by decide +kernel
theorem d_Md_setOf_36 : decode b_Md_setOf 36 = .ok (.return_, 1) := by decide +kernel
theorem d_Md_can_0 : decode b_Md_can 0 = .ok (.aload_n 0, 1) := by decide +kernel
theorem d_Md_can_1 : decode b_Md_can 1 = .ok (.iload_n 1, 1) := by decide +kernel
theorem d_Md_can_2 : decode b_Md_can 2 = .ok (.invokevirtual 127, 3) := by decide +kernel
theorem d_Md_can_5 : decode b_Md_can 5 = .ok (.ifCond .eq 21, 3) := by decide +kernel
theorem d_Md_can_8 : decode b_Md_can 8 = .ok (.iload_n 2, 1) := by decide +kernel
theorem d_Md_can_9 : decode b_Md_can 9 = .ok (.iconst 0, 1) := by decide +kernel
theorem d_Md_can_10 : decode b_Md_can 10 = .ok (.iconst 2, 1) := by decide +kernel
theorem d_Md_can_11 : decode b_Md_can 11 = .ok (.invokestatic 120, 3) := by decide +kernel
theorem d_Md_can_14 : decode b_Md_can 14 = .ok (.ifCond .eq 12, 3) := by decide +kernel
theorem d_Md_can_17 : decode b_Md_can 17 = .ok (.iload_n 3, 1) := by decide +kernel
theorem d_Md_can_18 : decode b_Md_can 18 = .ok (.iconst 0, 1) := by decide +kernel
theorem d_Md_can_19 : decode b_Md_can 19 = .ok (.iconst 1, 1) := by decide +kernel
theorem d_Md_can_20 : decode b_Md_can 20 = .ok (.invokestatic 120, 3) := by decide +kernel
theorem d_Md_can_23 : decode b_Md_can 23 = .ok (.ifCond .ne 5, 3) := by decide +kernel
theorem d_Md_can_26 : decode b_Md_can 26 = .ok (.iconst (-1), 1) := by decide +kernel
theorem d_Md_can_27 : decode b_Md_can 27 = .ok (.ireturn, 1) := by decide +kernel
theorem d_Md_can_28 : decode b_Md_can 28 = .ok (.aload_n 0, 1) := by decide +kernel
theorem d_Md_can_29 : decode b_Md_can 29 = .ok (.iload_n 1, 1) := by decide +kernel
theorem d_Md_can_30 : decode b_Md_can 30 = .ok (.iload_n 2, 1) := by decide +kernel
theorem d_Md_can_31 : decode b_Md_can 31 = .ok (.invokevirtual 317, 3) := by decide +kernel
theorem d_Md_can_34 : decode b_Md_can 34 = .ok (.istore 4, 2) := by decide +kernel
theorem d_Md_can_36 : decode b_Md_can 36 = .ok (.iconst 0, 1) := by decide +kernel
theorem d_Md_can_37 : decode b_Md_can 37 = .ok (.istore 5, 2) := by decide +kernel
theorem d_Md_can_39 : decode b_Md_can 39 = .ok (.bipush (-5), 2) := by decide +kernel
theorem d_Md_can_41 : decode b_Md_can 41 = .ok (.istore 6, 2) := by decide +kernel
theorem d_Md_can_43 : decode b_Md_can 43 = .ok (.iload_n 2, 1) := by decide +kernel
theorem d_Md_can_44 : decode b_Md_can 44 = .ok (.ifCond .ne 8, 3) := by decide +kernel
theorem d_Md_can_47 : decode b_Md_can 47 = .ok (.bipush 99, 2) := by decide +kernel
theorem d_Md_can_49 : decode b_Md_can 49 = .ok (.goto 15, 3) := by decide +kernel
theorem d_Md_can_52 : decode b_Md_can 52 = .ok (.iload_n 2, 1) := by decide +kernel
theorem d_Md_can_53 : decode b_Md_can 53 = .ok (.iconst 1, 1) := by decide +kernel
theorem d_Md_can_54 : decode b_Md_can 54 = .ok (.if_icmp .ne 8, 3) := by decide +kernel
theorem d_Md_can_57 : decode b_Md_can 57 = .ok (.bipush 60, 2) := by decide +kernel
theorem d_Md_can_59 : decode b_Md_can 59 = .ok (.goto 5, 3) := by decide +kernel
theorem d_Md_can_62 : decode b_Md_can 62 = .ok (.bipush 9, 2) := by decide +kernel
theorem d_Md_can_64 : decode b_Md_can 64 = .ok (.istore 7, 2) := by decide +kernel
theorem d_Md_can_66 : decode b_Md_can 66 = .ok (.iload 7, 2) := by decide +kernel
theorem d_Md_can_68 : decode b_Md_can 68 = .ok (.ifCond .lt 35, 3) := by decide +kernel
theorem d_Md_can_71 : decode b_Md_can 71 = .ok (.aload_n 0, 1) := by decide +kernel
theorem d_Md_can_72 : decode b_Md_can 72 = .ok (.iload_n 1, 1) := by decide +kernel
theorem d_Md_can_73 : decode b_Md_can 73 = .ok (.iload_n 2, 1) := by decide +kernel
theorem d_Md_can_74 : decode b_Md_can 74 = .ok (.iload 7, 2) := by decide +kernel
theorem d_Md_can_76 : decode b_Md_can 76 = .ok (.invokevirtual 320, 3) := by decide +kernel
theorem d_Md_can_79 : decode b_Md_can 79 = .ok (.aload_n 0, 1) := by decide +kernel
theorem d_Md_can_80 : decode b_Md_can 80 = .ok (.iload_n 1, 1) := by decide +kernel
theorem d_Md_can_81 : decode b_Md_can 81 = .ok (.invokevirtual 324, 3) := by decide +kernel
theorem d_Md_can_84 : decode b_Md_can 84 = .ok (.ifCond .ne 6, 3) := by decide +kernel
theorem d_Md_can_87 : decode b_Md_can 87 = .ok (.goto 10, 3) := by decide +kernel
theorem d_Md_can_90 : decode b_Md_can 90 = .ok (.iinc 5 1, 3) := by decide +kernel
theorem d_Md_can_93 : decode b_Md_can 93 = .ok (.iload 7, 2) := by decide +kernel
theorem d_Md_can_95 : decode b_Md_can 95 = .ok (.istore 6, 2) := by decide +kernel
theorem d_Md_can_97 : decode b_Md_can 97 = .ok (.iinc 7 (-1), 3) := by decide +kernel
theorem d_Md_can_100 : decode b_Md_can 100 = .ok (.goto (-34), 3) := by decide +kernel
theorem d_Md_can_103 : decode b_Md_can 103 = .ok (.aload_n 0, 1) := by decide +kernel
theorem d_Md_can_104 : decode b_Md_can 104 = .ok (.iload_n 1, 1) := by decide +kernel
theorem d_Md_can_105 : decode b_Md_can 105 = .ok (.iload_n 2, 1) := by decide +kernel
theorem d_Md_can_106 : decode b_Md_can 106 = .ok (.iload 4, 2) := by decide +kernel
theorem d_Md_can_108 : decode b_Md_can 108 = .ok (.invokevirtual 320, 3) := by decide +kernel
theorem d_Md_can_111 : decode b_Md_can 111 = .ok (.iload_n 3, 1) := by decide +kernel
theorem d_Md_can_112 : decode b_Md_can 112 = .ok (.ifCond .ne 8, 3) := by decide +kernel
theorem d_Md_can_115 : decode b_Md_can 115 = .ok (.iload 5, 2) := by decide +kernel
theorem d_Md_can_117 : decode b_Md_can 117 = .ok (.goto 5, 3) := by decide +kernel
theorem d_Md_can_120 : decode b_Md_can 120 = .ok (.iload 6, 2) := by decide +kernel
theorem d_Md_can_122 : decode b_Md_can 122 = .ok (.ireturn, 1) := by decide +kernel
theorem d_Md_part_0 : decode b_Md_part 0 = .ok (.lload_n 0, 1) := by decide +kernel
theorem d_Md_part_1 : decode b_Md_part 1 = .ok (.lstore 5, 2) := by decide +kernel
theorem d_Md_part_3 : decode b_Md_part 3 = .ok (.lload_n 2, 1) := by decide +kernel
theorem d_Md_part_4 : decode b_Md_part 4 = .ok (.lstore 7, 2) := by decide +kernel
theorem d_Md_part_6 : decode b_Md_part 6 = .ok (.lload 7, 2) := by decide +kernel
theorem d_Md_part_8 : decode b_Md_part 8 = .ok (.lconst 0, 1) := by decide +kernel
theorem d_Md_part_9 : decode b_Md_part 9 = .ok (.lcmp, 1) := by decide +kernel
theorem d_Md_part_10 : decode b_Md_part 10 = .ok (.ifCond .eq 21, 3) := by decide +kernel
theorem d_Md_part_13 : decode b_Md_part 13 = .ok (.lload 5, 2) := by decide +kernel
theorem d_Md_part_15 : decode b_Md_part 15 = .ok (.lload 7, 2) := by decide +kernel
theorem d_Md_part_17 : decode b_Md_part 17 = .ok (.lrem, 1) := by decide +kernel
theorem d_Md_part_18 : decode b_Md_part 18 = .ok (.lstore 9, 2) := by decide +kernel
theorem d_Md_part_20 : decode b_Md_part 20 = .ok (.lload 7, 2) := by decide +kernel
theorem d_Md_part_22 : decode b_Md_part 22 = .ok (.lstore 5, 2) := by decide +kernel
theorem d_Md_part_24 : decode b_Md_part 24 = .ok (.lload 9, 2) := by decide +kernel
theorem d_Md_part_26 : decode b_Md_part 26 = .ok (.lstore 7, 2) := by decide +kernel
theorem d_Md_part_28 : decode b_Md_part 28 = .ok (.goto (-22), 3) := by decide +kernel
theorem d_Md_part_31 : decode b_Md_part 31 = .ok (.iload 4, 2) := by decide +kernel
theorem d_Md_part_33 : decode b_Md_part 33 = .ok (.ifCond .ne 10, 3) := by decide +kernel
theorem d_Md_part_36 : decode b_Md_part 36 = .ok (.lload_n 0, 1) := by decide +kernel
theorem d_Md_part_37 : decode b_Md_part 37 = .ok (.lload 5, 2) := by decide +kernel
theorem d_Md_part_39 : decode b_Md_part 39 = .ok (.ldiv, 1) := by decide +kernel
theorem d_Md_part_40 : decode b_Md_part 40 = .ok (.goto 7, 3) := by decide +kernel
theorem d_Md_part_43 : decode b_Md_part 43 = .ok (.lload_n 2, 1) := by decide +kernel
theorem d_Md_part_44 : decode b_Md_part 44 = .ok (.lload 5, 2) := by decide +kernel
theorem d_Md_part_46 : decode b_Md_part 46 = .ok (.ldiv, 1) := by decide +kernel
theorem d_Md_part_47 : decode b_Md_part 47 = .ok (.lreturn, 1) := by decide +kernel
theorem d_Md_odds_0 : decode b_Md_odds 0 = .ok (.iload_n 1, 1) := by decide +kernel
theorem d_Md_odds_1 : decode b_Md_odds 1 = .ok (.iconst 0, 1) := by decide +kernel
theorem d_Md_odds_2 : decode b_Md_odds 2 = .ok (.sipush 9999, 3) := by decide +kernel
theorem d_Md_odds_5 : decode b_Md_odds 5 = .ok (.invokestatic 120, 3) := by decide +kernel
theorem d_Md_odds_8 : decode b_Md_odds 8 = .ok (.ifCond .eq 12, 3) := by decide +kernel
theorem d_Md_odds_11 : decode b_Md_odds 11 = .ok (.iload_n 2, 1) := by decide +kernel
theorem d_Md_odds_12 : decode b_Md_odds 12 = .ok (.iconst 0, 1) := by decide +kernel
theorem d_Md_odds_13 : decode b_Md_odds 13 = .ok (.iconst 1, 1) := by decide +kernel
theorem d_Md_odds_14 : decode b_Md_odds 14 = .ok (.invokestatic 120, 3) := by decide +kernel
theorem d_Md_odds_17 : decode b_Md_odds 17 = .ok (.ifCond .ne 7, 3) := by decide +kernel
theorem d_Md_odds_20 : decode b_Md_odds 20 = .ok (.ldc2_w 327, 3) := by decide +kernel
theorem d_Md_odds_23 : decode b_Md_odds 23 = .ok (.lreturn, 1) := by decide +kernel
theorem d_Md_odds_24 : decode b_Md_odds 24 = .ok (.aload_n 0, 1) := by decide +kernel
theorem d_Md_odds_25 : decode b_Md_odds 25 = .ok (.iconst 0, 1) := by decide +kernel
theorem d_Md_odds_26 : decode b_Md_odds 26 = .ok (.iload_n 1, 1) := by decide +kernel
theorem d_Md_odds_27 : decode b_Md_odds 27 = .ok (.invokevirtual 307, 3) := by decide +kernel
theorem d_Md_odds_30 : decode b_Md_odds 30 = .ok (.aload_n 0, 1) := by decide +kernel
theorem d_Md_odds_31 : decode b_Md_odds 31 = .ok (.getfield 285, 3) := by decide +kernel
theorem d_Md_odds_34 : decode b_Md_odds 34 = .ok (.aload_n 0, 1) := by decide +kernel
theorem d_Md_odds_35 : decode b_Md_odds 35 = .ok (.getfield 275, 3) := by decide +kernel
theorem d_Md_odds_38 : decode b_Md_odds 38 = .ok (.iload_n 2, 1) := by decide +kernel
theorem d_Md_odds_39 : decode b_Md_odds 39 = .ok (.invokestatic 329, 3) := by decide +kernel
theorem d_Md_odds_42 : decode b_Md_odds 42 = .ok (.lreturn, 1) := by decide +kernel
theorem d_Md_mean_0 : decode b_Md_mean 0 = .ok (.iload_n 1, 1) := by decide +kernel
theorem d_Md_mean_1 : decode b_Md_mean 1 = .ok (.iconst 0, 1) := by decide +kernel
theorem d_Md_mean_2 : decode b_Md_mean 2 = .ok (.iconst 1, 1) := by decide +kernel
theorem d_Md_mean_3 : decode b_Md_mean 3 = .ok (.invokestatic 120, 3) := by decide +kernel
theorem d_Md_mean_6 : decode b_Md_mean 6 = .ok (.ifCond .ne 7, 3) := by decide +kernel
theorem d_Md_mean_9 : decode b_Md_mean 9 = .ok (.ldc2_w 327, 3) := by decide +kernel
theorem d_Md_mean_12 : decode b_Md_mean 12 = .ok (.lreturn, 1) := by decide +kernel
theorem d_Md_mean_13 : decode b_Md_mean 13 = .ok (.aload_n 0, 1) := by decide +kernel
theorem d_Md_mean_14 : decode b_Md_mean 14 = .ok (.iconst 0, 1) := by decide +kernel
theorem d_Md_mean_15 : decode b_Md_mean 15 = .ok (.iconst 0, 1) := by decide +kernel
theorem d_Md_mean_16 : decode b_Md_mean 16 = .ok (.invokevirtual 307, 3) := by decide +kernel
theorem d_Md_mean_19 : decode b_Md_mean 19 = .ok (.aload_n 0, 1) := by decide +kernel
theorem d_Md_mean_20 : decode b_Md_mean 20 = .ok (.getfield 279, 3) := by decide +kernel
theorem d_Md_mean_23 : decode b_Md_mean 23 = .ok (.aload_n 0, 1) := by decide +kernel
theorem d_Md_mean_24 : decode b_Md_mean 24 = .ok (.getfield 275, 3) := by decide +kernel
theorem d_Md_mean_27 : decode b_Md_mean 27 = .ok (.iload_n 1, 1) := by decide +kernel
theorem d_Md_mean_28 : decode b_Md_mean 28 = .ok (.invokestatic 329, 3) := by decide +kernel
theorem d_Md_mean_31 : decode b_Md_mean 31 = .ok (.lreturn, 1) := by decide +kernel
theorem d_Md_plan_0 : decode b_Md_plan 0 = .ok (.iload_n 1, 1) := by decide +kernel
theorem d_Md_plan_1 : decode b_Md_plan 1 = .ok (.iconst (-1), 1) := by decide +kernel
theorem d_Md_plan_2 : decode b_Md_plan 2 = .ok (.if_icmp .ne 10, 3) := by decide +kernel
theorem d_Md_plan_5 : decode b_Md_plan 5 = .ok (.aload_n 0, 1) := by decide +kernel
theorem d_Md_plan_6 : decode b_Md_plan 6 = .ok (.iconst 0, 1) := by decide +kernel
theorem d_Md_plan_7 : decode b_Md_plan 7 = .ok (.putfield 333, 3) := by decide +kernel
theorem d_Md_plan_10 : decode b_Md_plan 10 = .ok (.iconst 0, 1) := by decide +kernel
theorem d_Md_plan_11 : decode b_Md_plan 11 = .ok (.ireturn, 1) := by decide +kernel
theorem d_Md_plan_12 : decode b_Md_plan 12 = .ok (.iload_n 1, 1) := by decide +kernel
theorem d_Md_plan_13 : decode b_Md_plan 13 = .ok (.iconst 0, 1) := by decide +kernel
theorem d_Md_plan_14 : decode b_Md_plan 14 = .ok (.iconst 3, 1) := by decide +kernel
theorem d_Md_plan_15 : decode b_Md_plan 15 = .ok (.invokestatic 120, 3) := by decide +kernel
theorem d_Md_plan_18 : decode b_Md_plan 18 = .ok (.ifCond .eq 15, 3) := by decide +kernel
theorem d_Md_plan_21 : decode b_Md_plan 21 = .ok (.iload_n 1, 1) := by decide +kernel
theorem d_Md_plan_22 : decode b_Md_plan 22 = .ok (.ifCond .le 13, 3) := by decide +kernel
theorem d_Md_plan_25 : decode b_Md_plan 25 = .ok (.aload_n 0, 1) := by decide +kernel
theorem d_Md_plan_26 : decode b_Md_plan 26 = .ok (.iload_n 2, 1) := by decide +kernel
theorem d_Md_plan_27 : decode b_Md_plan 27 = .ok (.invokevirtual 127, 3) := by decide +kernel
theorem d_Md_plan_30 : decode b_Md_plan 30 = .ok (.ifCond .ne 5, 3) := by decide +kernel
theorem d_Md_plan_33 : decode b_Md_plan 33 = .ok (.iconst (-1), 1) := by decide +kernel
theorem d_Md_plan_34 : decode b_Md_plan 34 = .ok (.ireturn, 1) := by decide +kernel
theorem d_Md_plan_35 : decode b_Md_plan 35 = .ok (.aload_n 0, 1) := by decide +kernel
theorem d_Md_plan_36 : decode b_Md_plan 36 = .ok (.getfield 333, 3) := by decide +kernel
theorem d_Md_plan_39 : decode b_Md_plan 39 = .ok (.bipush 10, 2) := by decide +kernel
theorem d_Md_plan_41 : decode b_Md_plan 41 = .ok (.if_icmp .ne 6, 3) := by decide +kernel
theorem d_Md_plan_44 : decode b_Md_plan 44 = .ok (.bipush (-4), 2) := by decide +kernel
theorem d_Md_plan_46 : decode b_Md_plan 46 = .ok (.ireturn, 1) := by decide +kernel
theorem d_Md_plan_47 : decode b_Md_plan 47 = .ok (.aload_n 0, 1) := by decide +kernel
theorem d_Md_plan_48 : decode b_Md_plan 48 = .ok (.getfield 70, 3) := by decide +kernel
theorem d_Md_plan_51 : decode b_Md_plan 51 = .ok (.aload_n 0, 1) := by decide +kernel
theorem d_Md_plan_52 : decode b_Md_plan 52 = .ok (.getfield 333, 3) := by decide +kernel
theorem d_Md_plan_55 : decode b_Md_plan 55 = .ok (.iload_n 1, 1) := by decide +kernel
theorem d_Md_plan_56 : decode b_Md_plan 56 = .ok (.iastore, 1) := by decide +kernel
theorem d_Md_plan_57 : decode b_Md_plan 57 = .ok (.aload_n 0, 1) := by decide +kernel
theorem d_Md_plan_58 : decode b_Md_plan 58 = .ok (.getfield 73, 3) := by decide +kernel
theorem d_Md_plan_61 : decode b_Md_plan 61 = .ok (.aload_n 0, 1) := by decide +kernel
theorem d_Md_plan_62 : decode b_Md_plan 62 = .ok (.dup, 1) := by decide +kernel
theorem d_Md_plan_63 : decode b_Md_plan 63 = .ok (.getfield 333, 3) := by decide +kernel
theorem d_Md_plan_66 : decode b_Md_plan 66 = .ok (.dup_x1, 1) := by decide +kernel
theorem d_Md_plan_67 : decode b_Md_plan 67 = .ok (.iconst 1, 1) := by decide +kernel
theorem d_Md_plan_68 : decode b_Md_plan 68 = .ok (.iadd, 1) := by decide +kernel
theorem d_Md_plan_69 : decode b_Md_plan 69 = .ok (.putfield 333, 3) := by decide +kernel
theorem d_Md_plan_72 : decode b_Md_plan 72 = .ok (.iload_n 1, 1) := by decide +kernel
theorem d_Md_plan_73 : decode b_Md_plan 73 = .ok (.ifCond .ne 7, 3) := by decide +kernel
theorem d_Md_plan_76 : decode b_Md_plan 76 = .ok (.iconst 0, 1) := by decide +kernel
theorem d_Md_plan_77 : decode b_Md_plan 77 = .ok (.goto 4, 3) := by decide +kernel
theorem d_Md_plan_80 : decode b_Md_plan 80 = .ok (.iload_n 2, 1) := by decide +kernel
theorem d_Md_plan_81 : decode b_Md_plan 81 = .ok (.iastore, 1) := by decide +kernel
theorem d_Md_plan_82 : decode b_Md_plan 82 = .ok (.aload_n 0, 1) := by decide +kernel
theorem d_Md_plan_83 : decode b_Md_plan 83 = .ok (.getfield 333, 3) := by decide +kernel
theorem d_Md_plan_86 : decode b_Md_plan 86 = .ok (.ireturn, 1) := by decide +kernel
theorem d_Md_ends_0 : decode b_Md_ends 0 = .ok (.iload_n 1, 1) := by decide +kernel
theorem d_Md_ends_1 : decode b_Md_ends 1 = .ok (.iconst 0, 1) := by decide +kernel
theorem d_Md_ends_2 : decode b_Md_ends 2 = .ok (.iconst 1, 1) := by decide +kernel
theorem d_Md_ends_3 : decode b_Md_ends 3 = .ok (.invokestatic 120, 3) := by decide +kernel
theorem d_Md_ends_6 : decode b_Md_ends 6 = .ok (.ifCond .ne 5, 3) := by decide +kernel
theorem d_Md_ends_9 : decode b_Md_ends 9 = .ok (.iconst (-1), 1) := by decide +kernel
theorem d_Md_ends_10 : decode b_Md_ends 10 = .ok (.ireturn, 1) := by decide +kernel
theorem d_Md_ends_11 : decode b_Md_ends 11 = .ok (.aload_n 0, 1) := by decide +kernel
theorem d_Md_ends_12 : decode b_Md_ends 12 = .ok (.aload_n 0, 1) := by decide +kernel
theorem d_Md_ends_13 : decode b_Md_ends 13 = .ok (.getfield 88, 3) := by decide +kernel
theorem d_Md_ends_16 : decode b_Md_ends 16 = .ok (.invokevirtual 265, 3) := by decide +kernel
theorem d_Md_ends_19 : decode b_Md_ends 19 = .ok (.iconst 0, 1) := by decide +kernel
theorem d_Md_ends_20 : decode b_Md_ends 20 = .ok (.istore_n 2, 1) := by decide +kernel
theorem d_Md_ends_21 : decode b_Md_ends 21 = .ok (.iload_n 2, 1) := by decide +kernel
theorem d_Md_ends_22 : decode b_Md_ends 22 = .ok (.aload_n 0, 1) := by decide +kernel
theorem d_Md_ends_23 : decode b_Md_ends 23 = .ok (.getfield 333, 3) := by decide +kernel
theorem d_Md_ends_26 : decode b_Md_ends 26 = .ok (.if_icmp .ge 86, 3) := by decide +kernel
theorem d_Md_ends_29 : decode b_Md_ends 29 = .ok (.aload_n 0, 1) := by decide +kernel
theorem d_Md_ends_30 : decode b_Md_ends 30 = .ok (.getfield 73, 3) := by decide +kernel
theorem d_Md_ends_33 : decode b_Md_ends 33 = .ok (.iload_n 2, 1) := by decide +kernel
theorem d_Md_ends_34 : decode b_Md_ends 34 = .ok (.iaload, 1) := by decide +kernel
theorem d_Md_ends_35 : decode b_Md_ends 35 = .ok (.istore_n 3, 1) := by decide +kernel
theorem d_Md_ends_36 : decode b_Md_ends 36 = .ok (.aload_n 0, 1) := by decide +kernel
theorem d_Md_ends_37 : decode b_Md_ends 37 = .ok (.getfield 70, 3) := by decide +kernel
theorem d_Md_ends_40 : decode b_Md_ends 40 = .ok (.iload_n 2, 1) := by decide +kernel
theorem d_Md_ends_41 : decode b_Md_ends 41 = .ok (.iaload, 1) := by decide +kernel
theorem d_Md_ends_42 : decode b_Md_ends 42 = .ok (.ifCond .ne 10, 3) := by decide +kernel
theorem d_Md_ends_45 : decode b_Md_ends 45 = .ok (.aload_n 0, 1) := by decide +kernel
theorem d_Md_ends_46 : decode b_Md_ends 46 = .ok (.invokevirtual 250, 3) := by decide +kernel
theorem d_Md_ends_49 : decode b_Md_ends 49 = .ok (.goto 57, 3) := by decide +kernel
theorem d_Md_ends_52 : decode b_Md_ends 52 = .ok (.aload_n 0, 1) := by decide +kernel
theorem d_Md_ends_53 : decode b_Md_ends 53 = .ok (.getfield 70, 3) := by decide +kernel
theorem d_Md_ends_56 : decode b_Md_ends 56 = .ok (.iload_n 2, 1) := by decide +kernel
theorem d_Md_ends_57 : decode b_Md_ends 57 = .ok (.iaload, 1) := by decide +kernel
theorem d_Md_ends_58 : decode b_Md_ends 58 = .ok (.iconst 3, 1) := by decide +kernel
theorem d_Md_ends_59 : decode b_Md_ends 59 = .ok (.if_icmp .ne 26, 3) := by decide +kernel
theorem d_Md_ends_62 : decode b_Md_ends 62 = .ok (.aload_n 0, 1) := by decide +kernel
theorem d_Md_ends_63 : decode b_Md_ends 63 = .ok (.getfield 18, 3) := by decide +kernel
theorem d_Md_ends_66 : decode b_Md_ends 66 = .ok (.iload_n 3, 1) := by decide +kernel
theorem d_Md_ends_67 : decode b_Md_ends 67 = .ok (.bipush 99, 2) := by decide +kernel
theorem d_Md_ends_69 : decode b_Md_ends 69 = .ok (.aload_n 0, 1) := by decide +kernel
theorem d_Md_ends_70 : decode b_Md_ends 70 = .ok (.getfield 18, 3) := by decide +kernel
theorem d_Md_ends_73 : decode b_Md_ends 73 = .ok (.iload_n 3, 1) := by decide +kernel
theorem d_Md_ends_74 : decode b_Md_ends 74 = .ok (.iaload, 1) := by decide +kernel
theorem d_Md_ends_75 : decode b_Md_ends 75 = .ok (.bipush 10, 2) := by decide +kernel
theorem d_Md_ends_77 : decode b_Md_ends 77 = .ok (.iadd, 1) := by decide +kernel
theorem d_Md_ends_78 : decode b_Md_ends 78 = .ok (.invokestatic 247, 3) := by decide +kernel
theorem d_Md_ends_81 : decode b_Md_ends 81 = .ok (.iastore, 1) := by decide +kernel
theorem d_Md_ends_82 : decode b_Md_ends 82 = .ok (.goto 24, 3) := by decide +kernel
theorem d_Md_ends_85 : decode b_Md_ends 85 = .ok (.aload_n 0, 1) := by decide +kernel
theorem d_Md_ends_86 : decode b_Md_ends 86 = .ok (.getfield 27, 3) := by decide +kernel
theorem d_Md_ends_89 : decode b_Md_ends 89 = .ok (.iload_n 3, 1) := by decide +kernel
theorem d_Md_ends_90 : decode b_Md_ends 90 = .ok (.aload_n 0, 1) := by decide +kernel
theorem d_Md_ends_91 : decode b_Md_ends 91 = .ok (.getfield 70, 3) := by decide +kernel
theorem d_Md_ends_94 : decode b_Md_ends 94 = .ok (.iload_n 2, 1) := by decide +kernel
theorem d_Md_ends_95 : decode b_Md_ends 95 = .ok (.iaload, 1) := by decide +kernel
theorem d_Md_ends_96 : decode b_Md_ends 96 = .ok (.iconst 1, 1) := by decide +kernel
theorem d_Md_ends_97 : decode b_Md_ends 97 = .ok (.if_icmp .ne 7, 3) := by decide +kernel
theorem d_Md_ends_100 : decode b_Md_ends 100 = .ok (.iconst 1, 1) := by decide +kernel
theorem d_Md_ends_101 : decode b_Md_ends 101 = .ok (.goto 4, 3) := by decide +kernel
theorem d_Md_ends_104 : decode b_Md_ends 104 = .ok (.iconst 0, 1) := by decide +kernel
theorem d_Md_ends_105 : decode b_Md_ends 105 = .ok (.iastore, 1) := by decide +kernel
theorem d_Md_ends_106 : decode b_Md_ends 106 = .ok (.iinc 2 1, 3) := by decide +kernel
theorem d_Md_ends_109 : decode b_Md_ends 109 = .ok (.goto (-88), 3) := by decide +kernel
theorem d_Md_ends_112 : decode b_Md_ends 112 = .ok (.iload_n 1, 1) := by decide +kernel
theorem d_Md_ends_113 : decode b_Md_ends 113 = .ok (.ifCond .ne 10, 3) := by decide +kernel
theorem d_Md_ends_116 : decode b_Md_ends 116 = .ok (.aload_n 0, 1) := by decide +kernel
theorem d_Md_ends_117 : decode b_Md_ends 117 = .ok (.invokevirtual 253, 3) := by decide +kernel
theorem d_Md_ends_120 : decode b_Md_ends 120 = .ok (.goto 7, 3) := by decide +kernel
theorem d_Md_ends_123 : decode b_Md_ends 123 = .ok (.aload_n 0, 1) := by decide +kernel
theorem d_Md_ends_124 : decode b_Md_ends 124 = .ok (.invokevirtual 256, 3) := by decide +kernel
theorem d_Md_ends_127 : decode b_Md_ends 127 = .ok (.istore_n 2, 1) := by decide +kernel
theorem d_Md_ends_128 : decode b_Md_ends 128 = .ok (.aload_n 0, 1) := by decide +kernel
theorem d_Md_ends_129 : decode b_Md_ends 129 = .ok (.aload_n 0, 1) := by decide +kernel
theorem d_Md_ends_130 : decode b_Md_ends 130 = .ok (.getfield 88, 3) := by decide +kernel
theorem d_Md_ends_133 : decode b_Md_ends 133 = .ok (.invokevirtual 269, 3) := by decide +kernel
theorem d_Md_ends_136 : decode b_Md_ends 136 = .ok (.iload_n 2, 1) := by decide +kernel
theorem d_Md_ends_137 : decode b_Md_ends 137 = .ok (.ireturn, 1) := by decide +kernel
theorem d_Md_book_0 : decode b_Md_book 0 = .ok (.iload_n 1, 1) := by decide +kernel
theorem d_Md_book_1 : decode b_Md_book 1 = .ok (.iconst (-1), 1) := by decide +kernel
theorem d_Md_book_2 : decode b_Md_book 2 = .ok (.if_icmp .ne 10, 3) := by decide +kernel
theorem d_Md_book_5 : decode b_Md_book 5 = .ok (.aload_n 0, 1) := by decide +kernel
theorem d_Md_book_6 : decode b_Md_book 6 = .ok (.iconst 0, 1) := by decide +kernel
theorem d_Md_book_7 : decode b_Md_book 7 = .ok (.putfield 336, 3) := by decide +kernel
theorem d_Md_book_10 : decode b_Md_book 10 = .ok (.iconst 0, 1) := by decide +kernel
theorem d_Md_book_11 : decode b_Md_book 11 = .ok (.ireturn, 1) := by decide +kernel
theorem d_Md_book_12 : decode b_Md_book 12 = .ok (.aload_n 0, 1) := by decide +kernel
theorem d_Md_book_13 : decode b_Md_book 13 = .ok (.iload_n 1, 1) := by decide +kernel
theorem d_Md_book_14 : decode b_Md_book 14 = .ok (.invokevirtual 127, 3) := by decide +kernel
theorem d_Md_book_17 : decode b_Md_book 17 = .ok (.ifCond .ne 5, 3) := by decide +kernel
theorem d_Md_book_20 : decode b_Md_book 20 = .ok (.iconst (-1), 1) := by decide +kernel
theorem d_Md_book_21 : decode b_Md_book 21 = .ok (.ireturn, 1) := by decide +kernel
theorem d_Md_book_22 : decode b_Md_book 22 = .ok (.iload_n 2, 1) := by decide +kernel
theorem d_Md_book_23 : decode b_Md_book 23 = .ok (.iconst 0, 1) := by decide +kernel
theorem d_Md_book_24 : decode b_Md_book 24 = .ok (.ldc 142, 2) := by decide +kernel
theorem d_Md_book_26 : decode b_Md_book 26 = .ok (.invokestatic 120, 3) := by decide +kernel
theorem d_Md_book_29 : decode b_Md_book 29 = .ok (.ifCond .ne 6, 3) := by decide +kernel
theorem d_Md_book_32 : decode b_Md_book 32 = .ok (.bipush (-2), 2) := by decide +kernel
theorem d_Md_book_34 : decode b_Md_book 34 = .ok (.ireturn, 1) := by decide +kernel
theorem d_Md_book_35 : decode b_Md_book 35 = .ok (.aload_n 0, 1) := by decide +kernel
theorem d_Md_book_36 : decode b_Md_book 36 = .ok (.getfield 336, 3) := by decide +kernel
theorem d_Md_book_39 : decode b_Md_book 39 = .ok (.bipush 8, 2) := by decide +kernel
theorem d_Md_book_41 : decode b_Md_book 41 = .ok (.if_icmp .ne 6, 3) := by decide +kernel
theorem d_Md_book_44 : decode b_Md_book 44 = .ok (.bipush (-4), 2) := by decide +kernel
theorem d_Md_book_46 : decode b_Md_book 46 = .ok (.ireturn, 1) := by decide +kernel
theorem d_Md_book_47 : decode b_Md_book 47 = .ok (.aload_n 0, 1) := by decide +kernel
theorem d_Md_book_48 : decode b_Md_book 48 = .ok (.getfield 76, 3) := by decide +kernel
theorem d_Md_book_51 : decode b_Md_book 51 = .ok (.aload_n 0, 1) := by decide +kernel
theorem d_Md_book_52 : decode b_Md_book 52 = .ok (.getfield 336, 3) := by decide +kernel
theorem d_Md_book_55 : decode b_Md_book 55 = .ok (.iload_n 1, 1) := by decide +kernel
theorem d_Md_book_56 : decode b_Md_book 56 = .ok (.iastore, 1) := by decide +kernel
theorem d_Md_book_57 : decode b_Md_book 57 = .ok (.aload_n 0, 1) := by decide +kernel
theorem d_Md_book_58 : decode b_Md_book 58 = .ok (.getfield 79, 3) := by decide +kernel
theorem d_Md_book_61 : decode b_Md_book 61 = .ok (.aload_n 0, 1) := by decide +kernel
theorem d_Md_book_62 : decode b_Md_book 62 = .ok (.dup, 1) := by decide +kernel
theorem d_Md_book_63 : decode b_Md_book 63 = .ok (.getfield 336, 3) := by decide +kernel
theorem d_Md_book_66 : decode b_Md_book 66 = .ok (.dup_x1, 1) := by decide +kernel
theorem d_Md_book_67 : decode b_Md_book 67 = .ok (.iconst 1, 1) := by decide +kernel
theorem d_Md_book_68 : decode b_Md_book 68 = .ok (.iadd, 1) := by decide +kernel
theorem d_Md_book_69 : decode b_Md_book 69 = .ok (.putfield 336, 3) := by decide +kernel
theorem d_Md_book_72 : decode b_Md_book 72 = .ok (.iload_n 2, 1) := by decide +kernel
theorem d_Md_book_73 : decode b_Md_book 73 = .ok (.iastore, 1) := by decide +kernel
theorem d_Md_book_74 : decode b_Md_book 74 = .ok (.aload_n 0, 1) := by decide +kernel
theorem d_Md_book_75 : decode b_Md_book 75 = .ok (.getfield 336, 3) := by decide +kernel
theorem d_Md_book_78 : decode b_Md_book 78 = .ok (.ireturn, 1) := by decide +kernel
theorem d_Md_looked_0 : decode b_Md_looked 0 = .ok (.iconst 0, 1) := by decide +kernel
theorem d_Md_looked_1 : decode b_Md_looked 1 = .ok (.istore_n 1, 1) := by decide +kernel
theorem d_Md_looked_2 : decode b_Md_looked 2 = .ok (.iload_n 1, 1) := by decide +kernel
theorem d_Md_looked_3 : decode b_Md_looked 3 = .ok (.aload_n 0, 1) := by decide +kernel
theorem d_Md_looked_4 : decode b_Md_looked 4 = .ok (.getfield 336, 3) := by decide +kernel
theorem d_Md_looked_7 : decode b_Md_looked 7 = .ok (.if_icmp .ge 31, 3) := by decide +kernel
theorem d_Md_looked_10 : decode b_Md_looked 10 = .ok (.aload_n 0, 1) := by decide +kernel
theorem d_Md_looked_11 : decode b_Md_looked 11 = .ok (.getfield 24, 3) := by decide +kernel
theorem d_Md_looked_14 : decode b_Md_looked 14 = .ok (.aload_n 0, 1) := by decide +kernel
theorem d_Md_looked_15 : decode b_Md_looked 15 = .ok (.getfield 76, 3) := by decide +kernel
theorem d_Md_looked_18 : decode b_Md_looked 18 = .ok (.iload_n 1, 1) := by decide +kernel
theorem d_Md_looked_19 : decode b_Md_looked 19 = .ok (.iaload, 1) := by decide +kernel
theorem d_Md_looked_20 : decode b_Md_looked 20 = .ok (.iaload, 1) := by decide +kernel
theorem d_Md_looked_21 : decode b_Md_looked 21 = .ok (.aload_n 0, 1) := by decide +kernel
theorem d_Md_looked_22 : decode b_Md_looked 22 = .ok (.getfield 79, 3) := by decide +kernel
theorem d_Md_looked_25 : decode b_Md_looked 25 = .ok (.iload_n 1, 1) := by decide +kernel
theorem d_Md_looked_26 : decode b_Md_looked 26 = .ok (.iaload, 1) := by decide +kernel
theorem d_Md_looked_27 : decode b_Md_looked 27 = .ok (.if_icmp .eq 5, 3) := by decide +kernel
theorem d_Md_looked_30 : decode b_Md_looked 30 = .ok (.iload_n 1, 1) := by decide +kernel
theorem d_Md_looked_31 : decode b_Md_looked 31 = .ok (.ireturn, 1) := by decide +kernel
theorem d_Md_looked_32 : decode b_Md_looked 32 = .ok (.iinc 1 1, 3) := by decide +kernel
theorem d_Md_looked_35 : decode b_Md_looked 35 = .ok (.goto (-33), 3) := by decide +kernel
theorem d_Md_looked_38 : decode b_Md_looked 38 = .ok (.bipush (-5), 2) := by decide +kernel
theorem d_Md_looked_40 : decode b_Md_looked 40 = .ok (.ireturn, 1) := by decide +kernel
theorem d_Md_judge_0 : decode b_Md_judge 0 = .ok (.iload_n 1, 1) := by decide +kernel
theorem d_Md_judge_1 : decode b_Md_judge 1 = .ok (.iconst 0, 1) := by decide +kernel
theorem d_Md_judge_2 : decode b_Md_judge 2 = .ok (.iconst 5, 1) := by decide +kernel
theorem d_Md_judge_3 : decode b_Md_judge 3 = .ok (.invokestatic 120, 3) := by decide +kernel
theorem d_Md_judge_6 : decode b_Md_judge 6 = .ok (.ifCond .ne 5, 3) := by decide +kernel
theorem d_Md_judge_9 : decode b_Md_judge 9 = .ok (.iconst (-1), 1) := by decide +kernel
theorem d_Md_judge_10 : decode b_Md_judge 10 = .ok (.ireturn, 1) := by decide +kernel
theorem d_Md_judge_11 : decode b_Md_judge 11 = .ok (.aload_n 0, 1) := by decide +kernel
theorem d_Md_judge_12 : decode b_Md_judge 12 = .ok (.getfield 103, 3) := by decide +kernel
theorem d_Md_judge_15 : decode b_Md_judge 15 = .ok (.iload_n 1, 1) := by decide +kernel
theorem d_Md_judge_16 : decode b_Md_judge 16 = .ok (.iaload, 1) := by decide +kernel
theorem d_Md_judge_17 : decode b_Md_judge 17 = .ok (.iconst (-1), 1) := by decide +kernel
theorem d_Md_judge_18 : decode b_Md_judge 18 = .ok (.if_icmp .eq 16, 3) := by decide +kernel
theorem d_Md_judge_21 : decode b_Md_judge 21 = .ok (.aload_n 0, 1) := by decide +kernel
theorem d_Md_judge_22 : decode b_Md_judge 22 = .ok (.getfield 103, 3) := by decide +kernel
theorem d_Md_judge_25 : decode b_Md_judge 25 = .ok (.iload_n 1, 1) := by decide +kernel
theorem d_Md_judge_26 : decode b_Md_judge 26 = .ok (.iaload, 1) := by decide +kernel
theorem d_Md_judge_27 : decode b_Md_judge 27 = .ok (.iconst 2, 1) := by decide +kernel
theorem d_Md_judge_28 : decode b_Md_judge 28 = .ok (.if_icmp .eq 6, 3) := by decide +kernel
theorem d_Md_judge_31 : decode b_Md_judge 31 = .ok (.bipush (-12), 2) := by decide +kernel
theorem d_Md_judge_33 : decode b_Md_judge 33 = .ok (.ireturn, 1) := by decide +kernel
theorem d_Md_judge_34 : decode b_Md_judge 34 = .ok (.iconst 0, 1) := by decide +kernel
theorem d_Md_judge_35 : decode b_Md_judge 35 = .ok (.istore_n 3, 1) := by decide +kernel
theorem d_Md_judge_36 : decode b_Md_judge 36 = .ok (.iload_n 3, 1) := by decide +kernel
theorem d_Md_judge_37 : decode b_Md_judge 37 = .ok (.aload_n 0, 1) := by decide +kernel
theorem d_Md_judge_38 : decode b_Md_judge 38 = .ok (.getfield 117, 3) := by decide +kernel
theorem d_Md_judge_41 : decode b_Md_judge 41 = .ok (.if_icmp .ge 70, 3) := by decide +kernel
theorem d_Md_judge_44 : decode b_Md_judge 44 = .ok (.aload_n 0, 1) := by decide +kernel
theorem d_Md_judge_45 : decode b_Md_judge 45 = .ok (.getfield 103, 3) := by decide +kernel
theorem d_Md_judge_48 : decode b_Md_judge 48 = .ok (.iload_n 1, 1) := by decide +kernel
theorem d_Md_judge_49 : decode b_Md_judge 49 = .ok (.iaload, 1) := by decide +kernel
theorem d_Md_judge_50 : decode b_Md_judge 50 = .ok (.iconst (-1), 1) := by decide +kernel
theorem d_Md_judge_51 : decode b_Md_judge 51 = .ok (.if_icmp .eq 23, 3) := by decide +kernel
theorem d_Md_judge_54 : decode b_Md_judge 54 = .ok (.iload_n 2, 1) := by decide +kernel
theorem d_Md_judge_55 : decode b_Md_judge 55 = .ok (.ifCond .lt 19, 3) := by decide +kernel
theorem d_Md_judge_58 : decode b_Md_judge 58 = .ok (.iload_n 2, 1) := by decide +kernel
theorem d_Md_judge_59 : decode b_Md_judge 59 = .ok (.i2l, 1) := by decide +kernel
theorem d_Md_judge_60 : decode b_Md_judge 60 = .ok (.iload_n 3, 1) := by decide +kernel
theorem d_Md_judge_61 : decode b_Md_judge 61 = .ok (.i2l, 1) := by decide +kernel
theorem d_Md_judge_62 : decode b_Md_judge 62 = .ok (.ladd, 1) := by decide +kernel
theorem d_Md_judge_63 : decode b_Md_judge 63 = .ok (.aload_n 0, 1) := by decide +kernel
theorem d_Md_judge_64 : decode b_Md_judge 64 = .ok (.getfield 106, 3) := by decide +kernel
theorem d_Md_judge_67 : decode b_Md_judge 67 = .ok (.iload_n 1, 1) := by decide +kernel
theorem d_Md_judge_68 : decode b_Md_judge 68 = .ok (.iaload, 1) := by decide +kernel
theorem d_Md_judge_69 : decode b_Md_judge 69 = .ok (.i2l, 1) := by decide +kernel
theorem d_Md_judge_70 : decode b_Md_judge 70 = .ok (.lcmp, 1) := by decide +kernel
theorem d_Md_judge_71 : decode b_Md_judge 71 = .ok (.ifCond .lt 8, 3) := by decide +kernel
theorem d_Md_judge_74 : decode b_Md_judge 74 = .ok (.bipush 100, 2) := by decide +kernel
theorem d_Md_judge_76 : decode b_Md_judge 76 = .ok (.iload_n 3, 1) := by decide +kernel
theorem d_Md_judge_77 : decode b_Md_judge 77 = .ok (.iadd, 1) := by decide +kernel
theorem d_Md_judge_78 : decode b_Md_judge 78 = .ok (.ireturn, 1) := by decide +kernel
theorem d_Md_judge_79 : decode b_Md_judge 79 = .ok (.aload_n 0, 1) := by decide +kernel
theorem d_Md_judge_80 : decode b_Md_judge 80 = .ok (.getfield 109, 3) := by decide +kernel
theorem d_Md_judge_83 : decode b_Md_judge 83 = .ok (.bipush 60, 2) := by decide +kernel
theorem d_Md_judge_85 : decode b_Md_judge 85 = .ok (.iload_n 1, 1) := by decide +kernel
theorem d_Md_judge_86 : decode b_Md_judge 86 = .ok (.imul, 1) := by decide +kernel
theorem d_Md_judge_87 : decode b_Md_judge 87 = .ok (.iload_n 2, 1) := by decide +kernel
theorem d_Md_judge_88 : decode b_Md_judge 88 = .ok (.iadd, 1) := by decide +kernel
theorem d_Md_judge_89 : decode b_Md_judge 89 = .ok (.iload_n 3, 1) := by decide +kernel
theorem d_Md_judge_90 : decode b_Md_judge 90 = .ok (.iadd, 1) := by decide +kernel
theorem d_Md_judge_91 : decode b_Md_judge 91 = .ok (.laload, 1) := by decide +kernel
theorem d_Md_judge_92 : decode b_Md_judge 92 = .ok (.aload_n 0, 1) := by decide +kernel
theorem d_Md_judge_93 : decode b_Md_judge 93 = .ok (.getfield 24, 3) := by decide +kernel
theorem d_Md_judge_96 : decode b_Md_judge 96 = .ok (.iload_n 3, 1) := by decide +kernel
theorem d_Md_judge_97 : decode b_Md_judge 97 = .ok (.iaload, 1) := by decide +kernel
theorem d_Md_judge_98 : decode b_Md_judge 98 = .ok (.i2l, 1) := by decide +kernel
theorem d_Md_judge_99 : decode b_Md_judge 99 = .ok (.lcmp, 1) := by decide +kernel
theorem d_Md_judge_100 : decode b_Md_judge 100 = .ok (.ifCond .eq 5, 3) := by decide +kernel
theorem d_Md_judge_103 : decode b_Md_judge 103 = .ok (.iload_n 3, 1) := by decide +kernel
theorem d_Md_judge_104 : decode b_Md_judge 104 = .ok (.ireturn, 1) := by decide +kernel
theorem d_Md_judge_105 : decode b_Md_judge 105 = .ok (.iinc 3 1, 3) := by decide +kernel
theorem d_Md_judge_108 : decode b_Md_judge 108 = .ok (.goto (-72), 3) := by decide +kernel
theorem d_Md_judge_111 : decode b_Md_judge 111 = .ok (.bipush (-5), 2) := by decide +kernel
theorem d_Md_judge_113 : decode b_Md_judge 113 = .ok (.ireturn, 1) := by decide +kernel
theorem d_Md_keep_0 : decode b_Md_keep 0 = .ok (.iconst 0, 1) := by decide +kernel
theorem d_Md_keep_1 : decode b_Md_keep 1 = .ok (.istore_n 2, 1) := by decide +kernel
theorem d_Md_keep_2 : decode b_Md_keep 2 = .ok (.iload_n 2, 1) := by decide +kernel
theorem d_Md_keep_3 : decode b_Md_keep 3 = .ok (.bipush 6, 2) := by decide +kernel
theorem d_Md_keep_5 : decode b_Md_keep 5 = .ok (.if_icmp .ge 90, 3) := by decide +kernel
theorem d_Md_keep_8 : decode b_Md_keep 8 = .ok (.aload_n 1, 1) := by decide +kernel
theorem d_Md_keep_9 : decode b_Md_keep 9 = .ok (.iload_n 2, 1) := by decide +kernel
theorem d_Md_keep_10 : decode b_Md_keep 10 = .ok (.aload_n 0, 1) := by decide +kernel
theorem d_Md_keep_11 : decode b_Md_keep 11 = .ok (.getfield 9, 3) := by decide +kernel
theorem d_Md_keep_14 : decode b_Md_keep 14 = .ok (.iload_n 2, 1) := by decide +kernel
theorem d_Md_keep_15 : decode b_Md_keep 15 = .ok (.iaload, 1) := by decide +kernel
theorem d_Md_keep_16 : decode b_Md_keep 16 = .ok (.iastore, 1) := by decide +kernel
theorem d_Md_keep_17 : decode b_Md_keep 17 = .ok (.aload_n 1, 1) := by decide +kernel
theorem d_Md_keep_18 : decode b_Md_keep 18 = .ok (.bipush 6, 2) := by decide +kernel
theorem d_Md_keep_20 : decode b_Md_keep 20 = .ok (.iload_n 2, 1) := by decide +kernel
theorem d_Md_keep_21 : decode b_Md_keep 21 = .ok (.iadd, 1) := by decide +kernel
theorem d_Md_keep_22 : decode b_Md_keep 22 = .ok (.aload_n 0, 1) := by decide +kernel
theorem d_Md_keep_23 : decode b_Md_keep 23 = .ok (.getfield 15, 3) := by decide +kernel
theorem d_Md_keep_26 : decode b_Md_keep 26 = .ok (.iload_n 2, 1) := by decide +kernel
theorem d_Md_keep_27 : decode b_Md_keep 27 = .ok (.iaload, 1) := by decide +kernel
theorem d_Md_keep_28 : decode b_Md_keep 28 = .ok (.iastore, 1) := by decide +kernel
theorem d_Md_keep_29 : decode b_Md_keep 29 = .ok (.aload_n 1, 1) := by decide +kernel
theorem d_Md_keep_30 : decode b_Md_keep 30 = .ok (.bipush 12, 2) := by decide +kernel
theorem d_Md_keep_32 : decode b_Md_keep 32 = .ok (.iload_n 2, 1) := by decide +kernel
theorem d_Md_keep_33 : decode b_Md_keep 33 = .ok (.iadd, 1) := by decide +kernel
theorem d_Md_keep_34 : decode b_Md_keep 34 = .ok (.aload_n 0, 1) := by decide +kernel
theorem d_Md_keep_35 : decode b_Md_keep 35 = .ok (.getfield 18, 3) := by decide +kernel
theorem d_Md_keep_38 : decode b_Md_keep 38 = .ok (.iload_n 2, 1) := by decide +kernel
theorem d_Md_keep_39 : decode b_Md_keep 39 = .ok (.iaload, 1) := by decide +kernel
theorem d_Md_keep_40 : decode b_Md_keep 40 = .ok (.iastore, 1) := by decide +kernel
theorem d_Md_keep_41 : decode b_Md_keep 41 = .ok (.aload_n 1, 1) := by decide +kernel
theorem d_Md_keep_42 : decode b_Md_keep 42 = .ok (.bipush 18, 2) := by decide +kernel
theorem d_Md_keep_44 : decode b_Md_keep 44 = .ok (.iload_n 2, 1) := by decide +kernel
theorem d_Md_keep_45 : decode b_Md_keep 45 = .ok (.iadd, 1) := by decide +kernel
theorem d_Md_keep_46 : decode b_Md_keep 46 = .ok (.aload_n 0, 1) := by decide +kernel
theorem d_Md_keep_47 : decode b_Md_keep 47 = .ok (.getfield 21, 3) := by decide +kernel
theorem d_Md_keep_50 : decode b_Md_keep 50 = .ok (.iload_n 2, 1) := by decide +kernel
theorem d_Md_keep_51 : decode b_Md_keep 51 = .ok (.iaload, 1) := by decide +kernel
theorem d_Md_keep_52 : decode b_Md_keep 52 = .ok (.iastore, 1) := by decide +kernel
theorem d_Md_keep_53 : decode b_Md_keep 53 = .ok (.aload_n 1, 1) := by decide +kernel
theorem d_Md_keep_54 : decode b_Md_keep 54 = .ok (.bipush 24, 2) := by decide +kernel
theorem d_Md_keep_56 : decode b_Md_keep 56 = .ok (.iload_n 2, 1) := by decide +kernel
theorem d_Md_keep_57 : decode b_Md_keep 57 = .ok (.iadd, 1) := by decide +kernel
theorem d_Md_keep_58 : decode b_Md_keep 58 = .ok (.aload_n 0, 1) := by decide +kernel
theorem d_Md_keep_59 : decode b_Md_keep 59 = .ok (.getfield 24, 3) := by decide +kernel
theorem d_Md_keep_62 : decode b_Md_keep 62 = .ok (.iload_n 2, 1) := by decide +kernel
theorem d_Md_keep_63 : decode b_Md_keep 63 = .ok (.iaload, 1) := by decide +kernel
theorem d_Md_keep_64 : decode b_Md_keep 64 = .ok (.iastore, 1) := by decide +kernel
theorem d_Md_keep_65 : decode b_Md_keep 65 = .ok (.aload_n 1, 1) := by decide +kernel
theorem d_Md_keep_66 : decode b_Md_keep 66 = .ok (.bipush 30, 2) := by decide +kernel
theorem d_Md_keep_68 : decode b_Md_keep 68 = .ok (.iload_n 2, 1) := by decide +kernel
theorem d_Md_keep_69 : decode b_Md_keep 69 = .ok (.iadd, 1) := by decide +kernel
theorem d_Md_keep_70 : decode b_Md_keep 70 = .ok (.aload_n 0, 1) := by decide +kernel
theorem d_Md_keep_71 : decode b_Md_keep 71 = .ok (.getfield 27, 3) := by decide +kernel
theorem d_Md_keep_74 : decode b_Md_keep 74 = .ok (.iload_n 2, 1) := by decide +kernel
theorem d_Md_keep_75 : decode b_Md_keep 75 = .ok (.iaload, 1) := by decide +kernel
theorem d_Md_keep_76 : decode b_Md_keep 76 = .ok (.iastore, 1) := by decide +kernel
theorem d_Md_keep_77 : decode b_Md_keep 77 = .ok (.aload_n 1, 1) := by decide +kernel
theorem d_Md_keep_78 : decode b_Md_keep 78 = .ok (.bipush 36, 2) := by decide +kernel
theorem d_Md_keep_80 : decode b_Md_keep 80 = .ok (.iload_n 2, 1) := by decide +kernel
theorem d_Md_keep_81 : decode b_Md_keep 81 = .ok (.iadd, 1) := by decide +kernel
theorem d_Md_keep_82 : decode b_Md_keep 82 = .ok (.aload_n 0, 1) := by decide +kernel
theorem d_Md_keep_83 : decode b_Md_keep 83 = .ok (.getfield 33, 3) := by decide +kernel
theorem d_Md_keep_86 : decode b_Md_keep 86 = .ok (.iload_n 2, 1) := by decide +kernel
theorem d_Md_keep_87 : decode b_Md_keep 87 = .ok (.iaload, 1) := by decide +kernel
theorem d_Md_keep_88 : decode b_Md_keep 88 = .ok (.iastore, 1) := by decide +kernel
theorem d_Md_keep_89 : decode b_Md_keep 89 = .ok (.iinc 2 1, 3) := by decide +kernel
theorem d_Md_keep_92 : decode b_Md_keep 92 = .ok (.goto (-90), 3) := by decide +kernel
theorem d_Md_keep_95 : decode b_Md_keep 95 = .ok (.iconst 0, 1) := by decide +kernel
theorem d_Md_keep_96 : decode b_Md_keep 96 = .ok (.istore_n 2, 1) := by decide +kernel
theorem d_Md_keep_97 : decode b_Md_keep 97 = .ok (.iload_n 2, 1) := by decide +kernel
theorem d_Md_keep_98 : decode b_Md_keep 98 = .ok (.bipush 24, 2) := by decide +kernel
theorem d_Md_keep_100 : decode b_Md_keep 100 = .ok (.if_icmp .ge 21, 3) := by decide +kernel
theorem d_Md_keep_103 : decode b_Md_keep 103 = .ok (.aload_n 1, 1) := by decide +kernel
theorem d_Md_keep_104 : decode b_Md_keep 104 = .ok (.bipush 42, 2) := by decide +kernel
theorem d_Md_keep_106 : decode b_Md_keep 106 = .ok (.iload_n 2, 1) := by decide +kernel
theorem d_Md_keep_107 : decode b_Md_keep 107 = .ok (.iadd, 1) := by decide +kernel
theorem d_Md_keep_108 : decode b_Md_keep 108 = .ok (.aload_n 0, 1) := by decide +kernel
theorem d_Md_keep_109 : decode b_Md_keep 109 = .ok (.getfield 30, 3) := by decide +kernel
theorem d_Md_keep_112 : decode b_Md_keep 112 = .ok (.iload_n 2, 1) := by decide +kernel
theorem d_Md_keep_113 : decode b_Md_keep 113 = .ok (.iaload, 1) := by decide +kernel
theorem d_Md_keep_114 : decode b_Md_keep 114 = .ok (.iastore, 1) := by decide +kernel
theorem d_Md_keep_115 : decode b_Md_keep 115 = .ok (.iinc 2 1, 3) := by decide +kernel
theorem d_Md_keep_118 : decode b_Md_keep 118 = .ok (.goto (-21), 3) := by decide +kernel
theorem d_Md_keep_121 : decode b_Md_keep 121 = .ok (.iconst 0, 1) := by decide +kernel
theorem d_Md_keep_122 : decode b_Md_keep 122 = .ok (.istore_n 2, 1) := by decide +kernel
theorem d_Md_keep_123 : decode b_Md_keep 123 = .ok (.iload_n 2, 1) := by decide +kernel
theorem d_Md_keep_124 : decode b_Md_keep 124 = .ok (.iconst 5, 1) := by decide +kernel
theorem d_Md_keep_125 : decode b_Md_keep 125 = .ok (.if_icmp .ge 45, 3) := by decide +kernel
theorem d_Md_keep_128 : decode b_Md_keep 128 = .ok (.aload_n 1, 1) := by decide +kernel
theorem d_Md_keep_129 : decode b_Md_keep 129 = .ok (.bipush 66, 2) := by decide +kernel
theorem d_Md_keep_131 : decode b_Md_keep 131 = .ok (.iload_n 2, 1) := by decide +kernel
theorem d_Md_keep_132 : decode b_Md_keep 132 = .ok (.iadd, 1) := by decide +kernel
theorem d_Md_keep_133 : decode b_Md_keep 133 = .ok (.aload_n 0, 1) := by decide +kernel
theorem d_Md_keep_134 : decode b_Md_keep 134 = .ok (.getfield 61, 3) := by decide +kernel
theorem d_Md_keep_137 : decode b_Md_keep 137 = .ok (.iload_n 2, 1) := by decide +kernel
theorem d_Md_keep_138 : decode b_Md_keep 138 = .ok (.iaload, 1) := by decide +kernel
theorem d_Md_keep_139 : decode b_Md_keep 139 = .ok (.iastore, 1) := by decide +kernel
theorem d_Md_keep_140 : decode b_Md_keep 140 = .ok (.aload_n 1, 1) := by decide +kernel
theorem d_Md_keep_141 : decode b_Md_keep 141 = .ok (.bipush 71, 2) := by decide +kernel
theorem d_Md_keep_143 : decode b_Md_keep 143 = .ok (.iload_n 2, 1) := by decide +kernel
theorem d_Md_keep_144 : decode b_Md_keep 144 = .ok (.iadd, 1) := by decide +kernel
theorem d_Md_keep_145 : decode b_Md_keep 145 = .ok (.aload_n 0, 1) := by decide +kernel
theorem d_Md_keep_146 : decode b_Md_keep 146 = .ok (.getfield 64, 3) := by decide +kernel
theorem d_Md_keep_149 : decode b_Md_keep 149 = .ok (.iload_n 2, 1) := by decide +kernel
theorem d_Md_keep_150 : decode b_Md_keep 150 = .ok (.iaload, 1) := by decide +kernel
theorem d_Md_keep_151 : decode b_Md_keep 151 = .ok (.iastore, 1) := by decide +kernel
theorem d_Md_keep_152 : decode b_Md_keep 152 = .ok (.aload_n 1, 1) := by decide +kernel
theorem d_Md_keep_153 : decode b_Md_keep 153 = .ok (.bipush 76, 2) := by decide +kernel
theorem d_Md_keep_155 : decode b_Md_keep 155 = .ok (.iload_n 2, 1) := by decide +kernel
theorem d_Md_keep_156 : decode b_Md_keep 156 = .ok (.iadd, 1) := by decide +kernel
theorem d_Md_keep_157 : decode b_Md_keep 157 = .ok (.aload_n 0, 1) := by decide +kernel
theorem d_Md_keep_158 : decode b_Md_keep 158 = .ok (.getfield 67, 3) := by decide +kernel
theorem d_Md_keep_161 : decode b_Md_keep 161 = .ok (.iload_n 2, 1) := by decide +kernel
theorem d_Md_keep_162 : decode b_Md_keep 162 = .ok (.iaload, 1) := by decide +kernel
theorem d_Md_keep_163 : decode b_Md_keep 163 = .ok (.iastore, 1) := by decide +kernel
theorem d_Md_keep_164 : decode b_Md_keep 164 = .ok (.iinc 2 1, 3) := by decide +kernel
theorem d_Md_keep_167 : decode b_Md_keep 167 = .ok (.goto (-44), 3) := by decide +kernel
theorem d_Md_keep_170 : decode b_Md_keep 170 = .ok (.iconst 0, 1) := by decide +kernel
theorem d_Md_keep_171 : decode b_Md_keep 171 = .ok (.istore_n 2, 1) := by decide +kernel
theorem d_Md_keep_172 : decode b_Md_keep 172 = .ok (.iload_n 2, 1) := by decide +kernel
theorem d_Md_keep_173 : decode b_Md_keep 173 = .ok (.bipush 10, 2) := by decide +kernel
theorem d_Md_keep_175 : decode b_Md_keep 175 = .ok (.if_icmp .ge 33, 3) := by decide +kernel
theorem d_Md_keep_178 : decode b_Md_keep 178 = .ok (.aload_n 1, 1) := by decide +kernel
theorem d_Md_keep_179 : decode b_Md_keep 179 = .ok (.bipush 81, 2) := by decide +kernel
theorem d_Md_keep_181 : decode b_Md_keep 181 = .ok (.iload_n 2, 1) := by decide +kernel
theorem d_Md_keep_182 : decode b_Md_keep 182 = .ok (.iadd, 1) := by decide +kernel
theorem d_Md_keep_183 : decode b_Md_keep 183 = .ok (.aload_n 0, 1) := by decide +kernel
theorem d_Md_keep_184 : decode b_Md_keep 184 = .ok (.getfield 70, 3) := by decide +kernel
theorem d_Md_keep_187 : decode b_Md_keep 187 = .ok (.iload_n 2, 1) := by decide +kernel
theorem d_Md_keep_188 : decode b_Md_keep 188 = .ok (.iaload, 1) := by decide +kernel
theorem d_Md_keep_189 : decode b_Md_keep 189 = .ok (.iastore, 1) := by decide +kernel
theorem d_Md_keep_190 : decode b_Md_keep 190 = .ok (.aload_n 1, 1) := by decide +kernel
theorem d_Md_keep_191 : decode b_Md_keep 191 = .ok (.bipush 91, 2) := by decide +kernel
theorem d_Md_keep_193 : decode b_Md_keep 193 = .ok (.iload_n 2, 1) := by decide +kernel
theorem d_Md_keep_194 : decode b_Md_keep 194 = .ok (.iadd, 1) := by decide +kernel
theorem d_Md_keep_195 : decode b_Md_keep 195 = .ok (.aload_n 0, 1) := by decide +kernel
theorem d_Md_keep_196 : decode b_Md_keep 196 = .ok (.getfield 73, 3) := by decide +kernel
theorem d_Md_keep_199 : decode b_Md_keep 199 = .ok (.iload_n 2, 1) := by decide +kernel
theorem d_Md_keep_200 : decode b_Md_keep 200 = .ok (.iaload, 1) := by decide +kernel
theorem d_Md_keep_201 : decode b_Md_keep 201 = .ok (.iastore, 1) := by decide +kernel
theorem d_Md_keep_202 : decode b_Md_keep 202 = .ok (.iinc 2 1, 3) := by decide +kernel
theorem d_Md_keep_205 : decode b_Md_keep 205 = .ok (.goto (-33), 3) := by decide +kernel
theorem d_Md_keep_208 : decode b_Md_keep 208 = .ok (.iconst 0, 1) := by decide +kernel
theorem d_Md_keep_209 : decode b_Md_keep 209 = .ok (.istore_n 2, 1) := by decide +kernel
theorem d_Md_keep_210 : decode b_Md_keep 210 = .ok (.iload_n 2, 1) := by decide +kernel
theorem d_Md_keep_211 : decode b_Md_keep 211 = .ok (.bipush 8, 2) := by decide +kernel
theorem d_Md_keep_213 : decode b_Md_keep 213 = .ok (.if_icmp .ge 33, 3) := by decide +kernel
theorem d_Md_keep_216 : decode b_Md_keep 216 = .ok (.aload_n 1, 1) := by decide +kernel
theorem d_Md_keep_217 : decode b_Md_keep 217 = .ok (.bipush 101, 2) := by decide +kernel
theorem d_Md_keep_219 : decode b_Md_keep 219 = .ok (.iload_n 2, 1) := by decide +kernel
theorem d_Md_keep_220 : decode b_Md_keep 220 = .ok (.iadd, 1) := by decide +kernel
theorem d_Md_keep_221 : decode b_Md_keep 221 = .ok (.aload_n 0, 1) := by decide +kernel
theorem d_Md_keep_222 : decode b_Md_keep 222 = .ok (.getfield 76, 3) := by decide +kernel
theorem d_Md_keep_225 : decode b_Md_keep 225 = .ok (.iload_n 2, 1) := by decide +kernel
theorem d_Md_keep_226 : decode b_Md_keep 226 = .ok (.iaload, 1) := by decide +kernel
theorem d_Md_keep_227 : decode b_Md_keep 227 = .ok (.iastore, 1) := by decide +kernel
theorem d_Md_keep_228 : decode b_Md_keep 228 = .ok (.aload_n 1, 1) := by decide +kernel
theorem d_Md_keep_229 : decode b_Md_keep 229 = .ok (.bipush 109, 2) := by decide +kernel
theorem d_Md_keep_231 : decode b_Md_keep 231 = .ok (.iload_n 2, 1) := by decide +kernel
theorem d_Md_keep_232 : decode b_Md_keep 232 = .ok (.iadd, 1) := by decide +kernel
theorem d_Md_keep_233 : decode b_Md_keep 233 = .ok (.aload_n 0, 1) := by decide +kernel
theorem d_Md_keep_234 : decode b_Md_keep 234 = .ok (.getfield 79, 3) := by decide +kernel
theorem d_Md_keep_237 : decode b_Md_keep 237 = .ok (.iload_n 2, 1) := by decide +kernel
theorem d_Md_keep_238 : decode b_Md_keep 238 = .ok (.iaload, 1) := by decide +kernel
theorem d_Md_keep_239 : decode b_Md_keep 239 = .ok (.iastore, 1) := by decide +kernel
theorem d_Md_keep_240 : decode b_Md_keep 240 = .ok (.iinc 2 1, 3) := by decide +kernel
theorem d_Md_keep_243 : decode b_Md_keep 243 = .ok (.goto (-33), 3) := by decide +kernel
theorem d_Md_keep_246 : decode b_Md_keep 246 = .ok (.aload_n 1, 1) := by decide +kernel
theorem d_Md_keep_247 : decode b_Md_keep 247 = .ok (.bipush 117, 2) := by decide +kernel
theorem d_Md_keep_249 : decode b_Md_keep 249 = .ok (.aload_n 0, 1) := by decide +kernel
theorem d_Md_keep_250 : decode b_Md_keep 250 = .ok (.getfield 117, 3) := by decide +kernel
theorem d_Md_keep_253 : decode b_Md_keep 253 = .ok (.iastore, 1) := by decide +kernel
theorem d_Md_keep_254 : decode b_Md_keep 254 = .ok (.aload_n 1, 1) := by decide +kernel
theorem d_Md_keep_255 : decode b_Md_keep 255 = .ok (.bipush 118, 2) := by decide +kernel
theorem d_Md_keep_257 : decode b_Md_keep 257 = .ok (.aload_n 0, 1) := by decide +kernel
theorem d_Md_keep_258 : decode b_Md_keep 258 = .ok (.getfield 124, 3) := by decide +kernel
theorem d_Md_keep_261 : decode b_Md_keep 261 = .ok (.iastore, 1) := by decide +kernel
theorem d_Md_keep_262 : decode b_Md_keep 262 = .ok (.aload_n 1, 1) := by decide +kernel
theorem d_Md_keep_263 : decode b_Md_keep 263 = .ok (.bipush 119, 2) := by decide +kernel
theorem d_Md_keep_265 : decode b_Md_keep 265 = .ok (.aload_n 0, 1) := by decide +kernel
theorem d_Md_keep_266 : decode b_Md_keep 266 = .ok (.getfield 135, 3) := by decide +kernel
theorem d_Md_keep_269 : decode b_Md_keep 269 = .ok (.iastore, 1) := by decide +kernel
theorem d_Md_keep_270 : decode b_Md_keep 270 = .ok (.aload_n 1, 1) := by decide +kernel
theorem d_Md_keep_271 : decode b_Md_keep 271 = .ok (.bipush 120, 2) := by decide +kernel
theorem d_Md_keep_273 : decode b_Md_keep 273 = .ok (.aload_n 0, 1) := by decide +kernel
theorem d_Md_keep_274 : decode b_Md_keep 274 = .ok (.getfield 314, 3) := by decide +kernel
theorem d_Md_keep_277 : decode b_Md_keep 277 = .ok (.iastore, 1) := by decide +kernel
theorem d_Md_keep_278 : decode b_Md_keep 278 = .ok (.aload_n 1, 1) := by decide +kernel
theorem d_Md_keep_279 : decode b_Md_keep 279 = .ok (.bipush 121, 2) := by decide +kernel
theorem d_Md_keep_281 : decode b_Md_keep 281 = .ok (.aload_n 0, 1) := by decide +kernel
theorem d_Md_keep_282 : decode b_Md_keep 282 = .ok (.getfield 333, 3) := by decide +kernel
theorem d_Md_keep_285 : decode b_Md_keep 285 = .ok (.iastore, 1) := by decide +kernel
theorem d_Md_keep_286 : decode b_Md_keep 286 = .ok (.aload_n 1, 1) := by decide +kernel
theorem d_Md_keep_287 : decode b_Md_keep 287 = .ok (.bipush 122, 2) := by decide +kernel
theorem d_Md_keep_289 : decode b_Md_keep 289 = .ok (.aload_n 0, 1) := by decide +kernel
theorem d_Md_keep_290 : decode b_Md_keep 290 = .ok (.getfield 336, 3) := by decide +kernel
theorem d_Md_keep_293 : decode b_Md_keep 293 = .ok (.iastore, 1) := by decide +kernel
theorem d_Md_keep_294 : decode b_Md_keep 294 = .ok (.aload_n 1, 1) := by decide +kernel
theorem d_Md_keep_295 : decode b_Md_keep 295 = .ok (.bipush 123, 2) := by decide +kernel
theorem d_Md_keep_297 : decode b_Md_keep 297 = .ok (.aload_n 0, 1) := by decide +kernel
theorem d_Md_keep_298 : decode b_Md_keep 298 = .ok (.getfield 113, 3) := by decide +kernel
theorem d_Md_keep_301 : decode b_Md_keep 301 = .ok (.iastore, 1) := by decide +kernel
theorem d_Md_keep_302 : decode b_Md_keep 302 = .ok (.return_, 1) := by decide +kernel
theorem d_Md_again_0 : decode b_Md_again 0 = .ok (.iconst 0, 1) := by decide +kernel
theorem d_Md_again_1 : decode b_Md_again 1 = .ok (.istore_n 2, 1) := by decide +kernel
theorem d_Md_again_2 : decode b_Md_again 2 = .ok (.iload_n 2, 1) := by decide +kernel
theorem d_Md_again_3 : decode b_Md_again 3 = .ok (.bipush 6, 2) := by decide +kernel
theorem d_Md_again_5 : decode b_Md_again 5 = .ok (.if_icmp .ge 90, 3) := by decide +kernel
theorem d_Md_again_8 : decode b_Md_again 8 = .ok (.aload_n 0, 1) := by decide +kernel
theorem d_Md_again_9 : decode b_Md_again 9 = .ok (.getfield 9, 3) := by decide +kernel
theorem d_Md_again_12 : decode b_Md_again 12 = .ok (.iload_n 2, 1) := by decide +kernel
theorem d_Md_again_13 : decode b_Md_again 13 = .ok (.aload_n 1, 1) := by decide +kernel
theorem d_Md_again_14 : decode b_Md_again 14 = .ok (.iload_n 2, 1) := by decide +kernel
theorem d_Md_again_15 : decode b_Md_again 15 = .ok (.iaload, 1) := by decide +kernel
theorem d_Md_again_16 : decode b_Md_again 16 = .ok (.iastore, 1) := by decide +kernel
theorem d_Md_again_17 : decode b_Md_again 17 = .ok (.aload_n 0, 1) := by decide +kernel
theorem d_Md_again_18 : decode b_Md_again 18 = .ok (.getfield 15, 3) := by decide +kernel
theorem d_Md_again_21 : decode b_Md_again 21 = .ok (.iload_n 2, 1) := by decide +kernel
theorem d_Md_again_22 : decode b_Md_again 22 = .ok (.aload_n 1, 1) := by decide +kernel
theorem d_Md_again_23 : decode b_Md_again 23 = .ok (.bipush 6, 2) := by decide +kernel
theorem d_Md_again_25 : decode b_Md_again 25 = .ok (.iload_n 2, 1) := by decide +kernel
theorem d_Md_again_26 : decode b_Md_again 26 = .ok (.iadd, 1) := by decide +kernel
theorem d_Md_again_27 : decode b_Md_again 27 = .ok (.iaload, 1) := by decide +kernel
theorem d_Md_again_28 : decode b_Md_again 28 = .ok (.iastore, 1) := by decide +kernel
theorem d_Md_again_29 : decode b_Md_again 29 = .ok (.aload_n 0, 1) := by decide +kernel
theorem d_Md_again_30 : decode b_Md_again 30 = .ok (.getfield 18, 3) := by decide +kernel
theorem d_Md_again_33 : decode b_Md_again 33 = .ok (.iload_n 2, 1) := by decide +kernel
theorem d_Md_again_34 : decode b_Md_again 34 = .ok (.aload_n 1, 1) := by decide +kernel
theorem d_Md_again_35 : decode b_Md_again 35 = .ok (.bipush 12, 2) := by decide +kernel
theorem d_Md_again_37 : decode b_Md_again 37 = .ok (.iload_n 2, 1) := by decide +kernel
theorem d_Md_again_38 : decode b_Md_again 38 = .ok (.iadd, 1) := by decide +kernel
theorem d_Md_again_39 : decode b_Md_again 39 = .ok (.iaload, 1) := by decide +kernel
theorem d_Md_again_40 : decode b_Md_again 40 = .ok (.iastore, 1) := by decide +kernel
theorem d_Md_again_41 : decode b_Md_again 41 = .ok (.aload_n 0, 1) := by decide +kernel
theorem d_Md_again_42 : decode b_Md_again 42 = .ok (.getfield 21, 3) := by decide +kernel
theorem d_Md_again_45 : decode b_Md_again 45 = .ok (.iload_n 2, 1) := by decide +kernel
theorem d_Md_again_46 : decode b_Md_again 46 = .ok (.aload_n 1, 1) := by decide +kernel
theorem d_Md_again_47 : decode b_Md_again 47 = .ok (.bipush 18, 2) := by decide +kernel
theorem d_Md_again_49 : decode b_Md_again 49 = .ok (.iload_n 2, 1) := by decide +kernel
theorem d_Md_again_50 : decode b_Md_again 50 = .ok (.iadd, 1) := by decide +kernel
theorem d_Md_again_51 : decode b_Md_again 51 = .ok (.iaload, 1) := by decide +kernel
theorem d_Md_again_52 : decode b_Md_again 52 = .ok (.iastore, 1) := by decide +kernel
theorem d_Md_again_53 : decode b_Md_again 53 = .ok (.aload_n 0, 1) := by decide +kernel
theorem d_Md_again_54 : decode b_Md_again 54 = .ok (.getfield 24, 3) := by decide +kernel
theorem d_Md_again_57 : decode b_Md_again 57 = .ok (.iload_n 2, 1) := by decide +kernel
theorem d_Md_again_58 : decode b_Md_again 58 = .ok (.aload_n 1, 1) := by decide +kernel
theorem d_Md_again_59 : decode b_Md_again 59 = .ok (.bipush 24, 2) := by decide +kernel
theorem d_Md_again_61 : decode b_Md_again 61 = .ok (.iload_n 2, 1) := by decide +kernel
theorem d_Md_again_62 : decode b_Md_again 62 = .ok (.iadd, 1) := by decide +kernel
theorem d_Md_again_63 : decode b_Md_again 63 = .ok (.iaload, 1) := by decide +kernel
theorem d_Md_again_64 : decode b_Md_again 64 = .ok (.iastore, 1) := by decide +kernel
theorem d_Md_again_65 : decode b_Md_again 65 = .ok (.aload_n 0, 1) := by decide +kernel
theorem d_Md_again_66 : decode b_Md_again 66 = .ok (.getfield 27, 3) := by decide +kernel
theorem d_Md_again_69 : decode b_Md_again 69 = .ok (.iload_n 2, 1) := by decide +kernel
theorem d_Md_again_70 : decode b_Md_again 70 = .ok (.aload_n 1, 1) := by decide +kernel
theorem d_Md_again_71 : decode b_Md_again 71 = .ok (.bipush 30, 2) := by decide +kernel
theorem d_Md_again_73 : decode b_Md_again 73 = .ok (.iload_n 2, 1) := by decide +kernel
theorem d_Md_again_74 : decode b_Md_again 74 = .ok (.iadd, 1) := by decide +kernel
theorem d_Md_again_75 : decode b_Md_again 75 = .ok (.iaload, 1) := by decide +kernel
theorem d_Md_again_76 : decode b_Md_again 76 = .ok (.iastore, 1) := by decide +kernel
theorem d_Md_again_77 : decode b_Md_again 77 = .ok (.aload_n 0, 1) := by decide +kernel
theorem d_Md_again_78 : decode b_Md_again 78 = .ok (.getfield 33, 3) := by decide +kernel
theorem d_Md_again_81 : decode b_Md_again 81 = .ok (.iload_n 2, 1) := by decide +kernel
theorem d_Md_again_82 : decode b_Md_again 82 = .ok (.aload_n 1, 1) := by decide +kernel
theorem d_Md_again_83 : decode b_Md_again 83 = .ok (.bipush 36, 2) := by decide +kernel
theorem d_Md_again_85 : decode b_Md_again 85 = .ok (.iload_n 2, 1) := by decide +kernel
theorem d_Md_again_86 : decode b_Md_again 86 = .ok (.iadd, 1) := by decide +kernel
theorem d_Md_again_87 : decode b_Md_again 87 = .ok (.iaload, 1) := by decide +kernel
theorem d_Md_again_88 : decode b_Md_again 88 = .ok (.iastore, 1) := by decide +kernel
theorem d_Md_again_89 : decode b_Md_again 89 = .ok (.iinc 2 1, 3) := by decide +kernel
theorem d_Md_again_92 : decode b_Md_again 92 = .ok (.goto (-90), 3) := by decide +kernel
theorem d_Md_again_95 : decode b_Md_again 95 = .ok (.iconst 0, 1) := by decide +kernel
theorem d_Md_again_96 : decode b_Md_again 96 = .ok (.istore_n 2, 1) := by decide +kernel
theorem d_Md_again_97 : decode b_Md_again 97 = .ok (.iload_n 2, 1) := by decide +kernel
theorem d_Md_again_98 : decode b_Md_again 98 = .ok (.bipush 24, 2) := by decide +kernel
theorem d_Md_again_100 : decode b_Md_again 100 = .ok (.if_icmp .ge 21, 3) := by decide +kernel
theorem d_Md_again_103 : decode b_Md_again 103 = .ok (.aload_n 0, 1) := by decide +kernel
theorem d_Md_again_104 : decode b_Md_again 104 = .ok (.getfield 30, 3) := by decide +kernel
theorem d_Md_again_107 : decode b_Md_again 107 = .ok (.iload_n 2, 1) := by decide +kernel
theorem d_Md_again_108 : decode b_Md_again 108 = .ok (.aload_n 1, 1) := by decide +kernel
theorem d_Md_again_109 : decode b_Md_again 109 = .ok (.bipush 42, 2) := by decide +kernel
theorem d_Md_again_111 : decode b_Md_again 111 = .ok (.iload_n 2, 1) := by decide +kernel
theorem d_Md_again_112 : decode b_Md_again 112 = .ok (.iadd, 1) := by decide +kernel
theorem d_Md_again_113 : decode b_Md_again 113 = .ok (.iaload, 1) := by decide +kernel
theorem d_Md_again_114 : decode b_Md_again 114 = .ok (.iastore, 1) := by decide +kernel
theorem d_Md_again_115 : decode b_Md_again 115 = .ok (.iinc 2 1, 3) := by decide +kernel
theorem d_Md_again_118 : decode b_Md_again 118 = .ok (.goto (-21), 3) := by decide +kernel
theorem d_Md_again_121 : decode b_Md_again 121 = .ok (.iconst 0, 1) := by decide +kernel
theorem d_Md_again_122 : decode b_Md_again 122 = .ok (.istore_n 2, 1) := by decide +kernel
theorem d_Md_again_123 : decode b_Md_again 123 = .ok (.iload_n 2, 1) := by decide +kernel
theorem d_Md_again_124 : decode b_Md_again 124 = .ok (.iconst 5, 1) := by decide +kernel
theorem d_Md_again_125 : decode b_Md_again 125 = .ok (.if_icmp .ge 45, 3) := by decide +kernel
theorem d_Md_again_128 : decode b_Md_again 128 = .ok (.aload_n 0, 1) := by decide +kernel
theorem d_Md_again_129 : decode b_Md_again 129 = .ok (.getfield 61, 3) := by decide +kernel
theorem d_Md_again_132 : decode b_Md_again 132 = .ok (.iload_n 2, 1) := by decide +kernel
theorem d_Md_again_133 : decode b_Md_again 133 = .ok (.aload_n 1, 1) := by decide +kernel
theorem d_Md_again_134 : decode b_Md_again 134 = .ok (.bipush 66, 2) := by decide +kernel
theorem d_Md_again_136 : decode b_Md_again 136 = .ok (.iload_n 2, 1) := by decide +kernel
theorem d_Md_again_137 : decode b_Md_again 137 = .ok (.iadd, 1) := by decide +kernel
theorem d_Md_again_138 : decode b_Md_again 138 = .ok (.iaload, 1) := by decide +kernel
theorem d_Md_again_139 : decode b_Md_again 139 = .ok (.iastore, 1) := by decide +kernel
theorem d_Md_again_140 : decode b_Md_again 140 = .ok (.aload_n 0, 1) := by decide +kernel
theorem d_Md_again_141 : decode b_Md_again 141 = .ok (.getfield 64, 3) := by decide +kernel
theorem d_Md_again_144 : decode b_Md_again 144 = .ok (.iload_n 2, 1) := by decide +kernel
theorem d_Md_again_145 : decode b_Md_again 145 = .ok (.aload_n 1, 1) := by decide +kernel
theorem d_Md_again_146 : decode b_Md_again 146 = .ok (.bipush 71, 2) := by decide +kernel
theorem d_Md_again_148 : decode b_Md_again 148 = .ok (.iload_n 2, 1) := by decide +kernel
theorem d_Md_again_149 : decode b_Md_again 149 = .ok (.iadd, 1) := by decide +kernel
theorem d_Md_again_150 : decode b_Md_again 150 = .ok (.iaload, 1) := by decide +kernel
theorem d_Md_again_151 : decode b_Md_again 151 = .ok (.iastore, 1) := by decide +kernel
theorem d_Md_again_152 : decode b_Md_again 152 = .ok (.aload_n 0, 1) := by decide +kernel
theorem d_Md_again_153 : decode b_Md_again 153 = .ok (.getfield 67, 3) := by decide +kernel
theorem d_Md_again_156 : decode b_Md_again 156 = .ok (.iload_n 2, 1) := by decide +kernel
theorem d_Md_again_157 : decode b_Md_again 157 = .ok (.aload_n 1, 1) := by decide +kernel
theorem d_Md_again_158 : decode b_Md_again 158 = .ok (.bipush 76, 2) := by decide +kernel
theorem d_Md_again_160 : decode b_Md_again 160 = .ok (.iload_n 2, 1) := by decide +kernel
theorem d_Md_again_161 : decode b_Md_again 161 = .ok (.iadd, 1) := by decide +kernel
theorem d_Md_again_162 : decode b_Md_again 162 = .ok (.iaload, 1) := by decide +kernel
theorem d_Md_again_163 : decode b_Md_again 163 = .ok (.iastore, 1) := by decide +kernel
theorem d_Md_again_164 : decode b_Md_again 164 = .ok (.iinc 2 1, 3) := by decide +kernel
theorem d_Md_again_167 : decode b_Md_again 167 = .ok (.goto (-44), 3) := by decide +kernel
theorem d_Md_again_170 : decode b_Md_again 170 = .ok (.iconst 0, 1) := by decide +kernel
theorem d_Md_again_171 : decode b_Md_again 171 = .ok (.istore_n 2, 1) := by decide +kernel
theorem d_Md_again_172 : decode b_Md_again 172 = .ok (.iload_n 2, 1) := by decide +kernel
theorem d_Md_again_173 : decode b_Md_again 173 = .ok (.bipush 10, 2) := by decide +kernel
theorem d_Md_again_175 : decode b_Md_again 175 = .ok (.if_icmp .ge 33, 3) := by decide +kernel
theorem d_Md_again_178 : decode b_Md_again 178 = .ok (.aload_n 0, 1) := by decide +kernel
theorem d_Md_again_179 : decode b_Md_again 179 = .ok (.getfield 70, 3) := by decide +kernel
theorem d_Md_again_182 : decode b_Md_again 182 = .ok (.iload_n 2, 1) := by decide +kernel
theorem d_Md_again_183 : decode b_Md_again 183 = .ok (.aload_n 1, 1) := by decide +kernel
theorem d_Md_again_184 : decode b_Md_again 184 = .ok (.bipush 81, 2) := by decide +kernel
theorem d_Md_again_186 : decode b_Md_again 186 = .ok (.iload_n 2, 1) := by decide +kernel
theorem d_Md_again_187 : decode b_Md_again 187 = .ok (.iadd, 1) := by decide +kernel
theorem d_Md_again_188 : decode b_Md_again 188 = .ok (.iaload, 1) := by decide +kernel
theorem d_Md_again_189 : decode b_Md_again 189 = .ok (.iastore, 1) := by decide +kernel
theorem d_Md_again_190 : decode b_Md_again 190 = .ok (.aload_n 0, 1) := by decide +kernel
theorem d_Md_again_191 : decode b_Md_again 191 = .ok (.getfield 73, 3) := by decide +kernel
theorem d_Md_again_194 : decode b_Md_again 194 = .ok (.iload_n 2, 1) := by decide +kernel
theorem d_Md_again_195 : decode b_Md_again 195 = .ok (.aload_n 1, 1) := by decide +kernel
theorem d_Md_again_196 : decode b_Md_again 196 = .ok (.bipush 91, 2) := by decide +kernel
theorem d_Md_again_198 : decode b_Md_again 198 = .ok (.iload_n 2, 1) := by decide +kernel
theorem d_Md_again_199 : decode b_Md_again 199 = .ok (.iadd, 1) := by decide +kernel
theorem d_Md_again_200 : decode b_Md_again 200 = .ok (.iaload, 1) := by decide +kernel
theorem d_Md_again_201 : decode b_Md_again 201 = .ok (.iastore, 1) := by decide +kernel
theorem d_Md_again_202 : decode b_Md_again 202 = .ok (.iinc 2 1, 3) := by decide +kernel
theorem d_Md_again_205 : decode b_Md_again 205 = .ok (.goto (-33), 3) := by decide +kernel
theorem d_Md_again_208 : decode b_Md_again 208 = .ok (.iconst 0, 1) := by decide +kernel
theorem d_Md_again_209 : decode b_Md_again 209 = .ok (.istore_n 2, 1) := by decide +kernel
theorem d_Md_again_210 : decode b_Md_again 210 = .ok (.iload_n 2, 1) := by decide +kernel
theorem d_Md_again_211 : decode b_Md_again 211 = .ok (.bipush 8, 2) := by decide +kernel
theorem d_Md_again_213 : decode b_Md_again 213 = .ok (.if_icmp .ge 33, 3) := by decide +kernel
theorem d_Md_again_216 : decode b_Md_again 216 = .ok (.aload_n 0, 1) := by decide +kernel
theorem d_Md_again_217 : decode b_Md_again 217 = .ok (.getfield 76, 3) := by decide +kernel
theorem d_Md_again_220 : decode b_Md_again 220 = .ok (.iload_n 2, 1) := by decide +kernel
theorem d_Md_again_221 : decode b_Md_again 221 = .ok (.aload_n 1, 1) := by decide +kernel
theorem d_Md_again_222 : decode b_Md_again 222 = .ok (.bipush 101, 2) := by decide +kernel
theorem d_Md_again_224 : decode b_Md_again 224 = .ok (.iload_n 2, 1) := by decide +kernel
theorem d_Md_again_225 : decode b_Md_again 225 = .ok (.iadd, 1) := by decide +kernel
theorem d_Md_again_226 : decode b_Md_again 226 = .ok (.iaload, 1) := by decide +kernel
theorem d_Md_again_227 : decode b_Md_again 227 = .ok (.iastore, 1) := by decide +kernel
theorem d_Md_again_228 : decode b_Md_again 228 = .ok (.aload_n 0, 1) := by decide +kernel
theorem d_Md_again_229 : decode b_Md_again 229 = .ok (.getfield 79, 3) := by decide +kernel
theorem d_Md_again_232 : decode b_Md_again 232 = .ok (.iload_n 2, 1) := by decide +kernel
theorem d_Md_again_233 : decode b_Md_again 233 = .ok (.aload_n 1, 1) := by decide +kernel
theorem d_Md_again_234 : decode b_Md_again 234 = .ok (.bipush 109, 2) := by decide +kernel
theorem d_Md_again_236 : decode b_Md_again 236 = .ok (.iload_n 2, 1) := by decide +kernel
theorem d_Md_again_237 : decode b_Md_again 237 = .ok (.iadd, 1) := by decide +kernel
theorem d_Md_again_238 : decode b_Md_again 238 = .ok (.iaload, 1) := by decide +kernel
theorem d_Md_again_239 : decode b_Md_again 239 = .ok (.iastore, 1) := by decide +kernel
theorem d_Md_again_240 : decode b_Md_again 240 = .ok (.iinc 2 1, 3) := by decide +kernel
theorem d_Md_again_243 : decode b_Md_again 243 = .ok (.goto (-33), 3) := by decide +kernel
theorem d_Md_again_246 : decode b_Md_again 246 = .ok (.aload_n 0, 1) := by decide +kernel
theorem d_Md_again_247 : decode b_Md_again 247 = .ok (.aload_n 1, 1) := by decide +kernel
theorem d_Md_again_248 : decode b_Md_again 248 = .ok (.bipush 117, 2) := by decide +kernel
theorem d_Md_again_250 : decode b_Md_again 250 = .ok (.iaload, 1) := by decide +kernel
theorem d_Md_again_251 : decode b_Md_again 251 = .ok (.putfield 117, 3) := by decide +kernel
theorem d_Md_again_254 : decode b_Md_again 254 = .ok (.aload_n 0, 1) := by decide +kernel
theorem d_Md_again_255 : decode b_Md_again 255 = .ok (.aload_n 1, 1) := by decide +kernel
theorem d_Md_again_256 : decode b_Md_again 256 = .ok (.bipush 118, 2) := by decide +kernel
theorem d_Md_again_258 : decode b_Md_again 258 = .ok (.iaload, 1) := by decide +kernel
theorem d_Md_again_259 : decode b_Md_again 259 = .ok (.putfield 124, 3) := by decide +kernel
theorem d_Md_again_262 : decode b_Md_again 262 = .ok (.aload_n 0, 1) := by decide +kernel
theorem d_Md_again_263 : decode b_Md_again 263 = .ok (.aload_n 1, 1) := by decide +kernel
theorem d_Md_again_264 : decode b_Md_again 264 = .ok (.bipush 119, 2) := by decide +kernel
theorem d_Md_again_266 : decode b_Md_again 266 = .ok (.iaload, 1) := by decide +kernel
theorem d_Md_again_267 : decode b_Md_again 267 = .ok (.putfield 135, 3) := by decide +kernel
theorem d_Md_again_270 : decode b_Md_again 270 = .ok (.aload_n 0, 1) := by decide +kernel
theorem d_Md_again_271 : decode b_Md_again 271 = .ok (.aload_n 1, 1) := by decide +kernel
theorem d_Md_again_272 : decode b_Md_again 272 = .ok (.bipush 120, 2) := by decide +kernel
theorem d_Md_again_274 : decode b_Md_again 274 = .ok (.iaload, 1) := by decide +kernel
theorem d_Md_again_275 : decode b_Md_again 275 = .ok (.putfield 314, 3) := by decide +kernel
theorem d_Md_again_278 : decode b_Md_again 278 = .ok (.aload_n 0, 1) := by decide +kernel
theorem d_Md_again_279 : decode b_Md_again 279 = .ok (.aload_n 1, 1) := by decide +kernel
theorem d_Md_again_280 : decode b_Md_again 280 = .ok (.bipush 121, 2) := by decide +kernel
theorem d_Md_again_282 : decode b_Md_again 282 = .ok (.iaload, 1) := by decide +kernel
theorem d_Md_again_283 : decode b_Md_again 283 = .ok (.putfield 333, 3) := by decide +kernel
theorem d_Md_again_286 : decode b_Md_again 286 = .ok (.aload_n 0, 1) := by decide +kernel
theorem d_Md_again_287 : decode b_Md_again 287 = .ok (.aload_n 1, 1) := by decide +kernel
theorem d_Md_again_288 : decode b_Md_again 288 = .ok (.bipush 122, 2) := by decide +kernel
theorem d_Md_again_290 : decode b_Md_again 290 = .ok (.iaload, 1) := by decide +kernel
theorem d_Md_again_291 : decode b_Md_again 291 = .ok (.putfield 336, 3) := by decide +kernel
theorem d_Md_again_294 : decode b_Md_again 294 = .ok (.aload_n 0, 1) := by decide +kernel
theorem d_Md_again_295 : decode b_Md_again 295 = .ok (.aload_n 1, 1) := by decide +kernel
theorem d_Md_again_296 : decode b_Md_again 296 = .ok (.bipush 123, 2) := by decide +kernel
theorem d_Md_again_298 : decode b_Md_again 298 = .ok (.iaload, 1) := by decide +kernel
theorem d_Md_again_299 : decode b_Md_again 299 = .ok (.putfield 113, 3) := by decide +kernel
theorem d_Md_again_302 : decode b_Md_again 302 = .ok (.return_, 1) := by decide +kernel
theorem d_Md_image_0 : decode b_Md_image 0 = .ok (.aload_n 0, 1) := by decide +kernel
theorem d_Md_image_1 : decode b_Md_image 1 = .ok (.iconst 1, 1) := by decide +kernel
theorem d_Md_image_2 : decode b_Md_image 2 = .ok (.putfield 339, 3) := by decide +kernel
theorem d_Md_image_5 : decode b_Md_image 5 = .ok (.aload_n 0, 1) := by decide +kernel
theorem d_Md_image_6 : decode b_Md_image 6 = .ok (.aload_n 0, 1) := by decide +kernel
theorem d_Md_image_7 : decode b_Md_image 7 = .ok (.getfield 85, 3) := by decide +kernel
theorem d_Md_image_10 : decode b_Md_image 10 = .ok (.invokevirtual 265, 3) := by decide +kernel
theorem d_Md_image_13 : decode b_Md_image 13 = .ok (.aload_n 0, 1) := by decide +kernel
theorem d_Md_image_14 : decode b_Md_image 14 = .ok (.getfield 117, 3) := by decide +kernel
theorem d_Md_image_17 : decode b_Md_image 17 = .ok (.ireturn, 1) := by decide +kernel
theorem d_Md_undo_0 : decode b_Md_undo 0 = .ok (.aload_n 0, 1) := by decide +kernel
theorem d_Md_undo_1 : decode b_Md_undo 1 = .ok (.getfield 339, 3) := by decide +kernel
theorem d_Md_undo_4 : decode b_Md_undo 4 = .ok (.ifCond .ne 6, 3) := by decide +kernel
theorem d_Md_undo_7 : decode b_Md_undo 7 = .ok (.bipush (-3), 2) := by decide +kernel
theorem d_Md_undo_9 : decode b_Md_undo 9 = .ok (.ireturn, 1) := by decide +kernel
theorem d_Md_undo_10 : decode b_Md_undo 10 = .ok (.aload_n 0, 1) := by decide +kernel
theorem d_Md_undo_11 : decode b_Md_undo 11 = .ok (.aload_n 0, 1) := by decide +kernel
theorem d_Md_undo_12 : decode b_Md_undo 12 = .ok (.getfield 85, 3) := by decide +kernel
theorem d_Md_undo_15 : decode b_Md_undo 15 = .ok (.invokevirtual 269, 3) := by decide +kernel
theorem d_Md_undo_18 : decode b_Md_undo 18 = .ok (.aload_n 0, 1) := by decide +kernel
theorem d_Md_undo_19 : decode b_Md_undo 19 = .ok (.getfield 117, 3) := by decide +kernel
theorem d_Md_undo_22 : decode b_Md_undo 22 = .ok (.ireturn, 1) := by decide +kernel
theorem d_Md_ran_0 : decode b_Md_ran 0 = .ok (.aload_n 0, 1) := by decide +kernel
theorem d_Md_ran_1 : decode b_Md_ran 1 = .ok (.getfield 342, 3) := by decide +kernel
theorem d_Md_ran_4 : decode b_Md_ran 4 = .ok (.bipush 20, 2) := by decide +kernel
theorem d_Md_ran_6 : decode b_Md_ran 6 = .ok (.if_icmp .ge 13, 3) := by decide +kernel
theorem d_Md_ran_9 : decode b_Md_ran 9 = .ok (.aload_n 0, 1) := by decide +kernel
theorem d_Md_ran_10 : decode b_Md_ran 10 = .ok (.getfield 82, 3) := by decide +kernel
theorem d_Md_ran_13 : decode b_Md_ran 13 = .ok (.aload_n 0, 1) := by decide +kernel
theorem d_Md_ran_14 : decode b_Md_ran 14 = .ok (.getfield 342, 3) := by decide +kernel
theorem d_Md_ran_17 : decode b_Md_ran 17 = .ok (.iload_n 1, 1) := by decide +kernel
theorem d_Md_ran_18 : decode b_Md_ran 18 = .ok (.iastore, 1) := by decide +kernel
theorem d_Md_ran_19 : decode b_Md_ran 19 = .ok (.aload_n 0, 1) := by decide +kernel
theorem d_Md_ran_20 : decode b_Md_ran 20 = .ok (.dup, 1) := by decide +kernel
theorem d_Md_ran_21 : decode b_Md_ran 21 = .ok (.getfield 342, 3) := by decide +kernel
theorem d_Md_ran_24 : decode b_Md_ran 24 = .ok (.iconst 1, 1) := by decide +kernel
theorem d_Md_ran_25 : decode b_Md_ran 25 = .ok (.iadd, 1) := by decide +kernel
theorem d_Md_ran_26 : decode b_Md_ran 26 = .ok (.putfield 342, 3) := by decide +kernel
theorem d_Md_ran_29 : decode b_Md_ran 29 = .ok (.return_, 1) := by decide +kernel
theorem d_Md_above_0 : decode b_Md_above 0 = .ok (.iload_n 0, 1) := by decide +kernel
theorem d_Md_above_1 : decode b_Md_above 1 = .ok (.iconst 4, 1) := by decide +kernel
theorem d_Md_above_2 : decode b_Md_above 2 = .ok (.if_icmp .ne 7, 3) := by decide +kernel
theorem d_Md_above_5 : decode b_Md_above 5 = .ok (.iconst 1, 1) := by decide +kernel
theorem d_Md_above_6 : decode b_Md_above 6 = .ok (.goto 23, 3) := by decide +kernel
theorem d_Md_above_9 : decode b_Md_above 9 = .ok (.iload_n 0, 1) := by decide +kernel
theorem d_Md_above_10 : decode b_Md_above 10 = .ok (.iconst 5, 1) := by decide +kernel
theorem d_Md_above_11 : decode b_Md_above 11 = .ok (.if_icmp .ne 7, 3) := by decide +kernel
theorem d_Md_above_14 : decode b_Md_above 14 = .ok (.iconst 2, 1) := by decide +kernel
theorem d_Md_above_15 : decode b_Md_above 15 = .ok (.goto 14, 3) := by decide +kernel
theorem d_Md_above_18 : decode b_Md_above 18 = .ok (.iload_n 0, 1) := by decide +kernel
theorem d_Md_above_19 : decode b_Md_above 19 = .ok (.bipush 6, 2) := by decide +kernel
theorem d_Md_above_21 : decode b_Md_above 21 = .ok (.if_icmp .ne 7, 3) := by decide +kernel
theorem d_Md_above_24 : decode b_Md_above 24 = .ok (.iconst 3, 1) := by decide +kernel
theorem d_Md_above_25 : decode b_Md_above 25 = .ok (.goto 4, 3) := by decide +kernel
theorem d_Md_above_28 : decode b_Md_above 28 = .ok (.iconst 0, 1) := by decide +kernel
theorem d_Md_above_29 : decode b_Md_above 29 = .ok (.ireturn, 1) := by decide +kernel
theorem d_Md_weeps_0 : decode b_Md_weeps 0 = .ok (.iload_n 2, 1) := by decide +kernel
theorem d_Md_weeps_1 : decode b_Md_weeps 1 = .ok (.tableswitch 105 0 6 #[95, 105, 43, 105, 59, 105, 74], 43) := by decide +kernel
theorem d_Md_weeps_44 : decode b_Md_weeps 44 = .ok (.aload_n 0, 1) := by decide +kernel
theorem d_Md_weeps_45 : decode b_Md_weeps 45 = .ok (.bipush 30, 2) := by decide +kernel
theorem d_Md_weeps_47 : decode b_Md_weeps 47 = .ok (.invokevirtual 345, 3) := by decide +kernel
theorem d_Md_weeps_50 : decode b_Md_weeps 50 = .ok (.aload_n 0, 1) := by decide +kernel
theorem d_Md_weeps_51 : decode b_Md_weeps 51 = .ok (.iload_n 1, 1) := by decide +kernel
theorem d_Md_weeps_52 : decode b_Md_weeps 52 = .ok (.iconst 0, 1) := by decide +kernel
theorem d_Md_weeps_53 : decode b_Md_weeps 53 = .ok (.iload_n 3, 1) := by decide +kernel
theorem d_Md_weeps_54 : decode b_Md_weeps 54 = .ok (.iconst 3, 1) := by decide +kernel
theorem d_Md_weeps_55 : decode b_Md_weeps 55 = .ok (.imul, 1) := by decide +kernel
theorem d_Md_weeps_56 : decode b_Md_weeps 56 = .ok (.invokevirtual 349, 3) := by decide +kernel
theorem d_Md_weeps_59 : decode b_Md_weeps 59 = .ok (.ireturn, 1) := by decide +kernel
theorem d_Md_weeps_60 : decode b_Md_weeps 60 = .ok (.aload_n 0, 1) := by decide +kernel
theorem d_Md_weeps_61 : decode b_Md_weeps 61 = .ok (.bipush 50, 2) := by decide +kernel
theorem d_Md_weeps_63 : decode b_Md_weeps 63 = .ok (.invokevirtual 345, 3) := by decide +kernel
theorem d_Md_weeps_66 : decode b_Md_weeps 66 = .ok (.aload_n 0, 1) := by decide +kernel
theorem d_Md_weeps_67 : decode b_Md_weeps 67 = .ok (.iload_n 1, 1) := by decide +kernel
theorem d_Md_weeps_68 : decode b_Md_weeps 68 = .ok (.iconst 1, 1) := by decide +kernel
theorem d_Md_weeps_69 : decode b_Md_weeps 69 = .ok (.iload_n 3, 1) := by decide +kernel
theorem d_Md_weeps_70 : decode b_Md_weeps 70 = .ok (.invokevirtual 349, 3) := by decide +kernel
theorem d_Md_weeps_73 : decode b_Md_weeps 73 = .ok (.ineg, 1) := by decide +kernel
theorem d_Md_weeps_74 : decode b_Md_weeps 74 = .ok (.ireturn, 1) := by decide +kernel
theorem d_Md_weeps_75 : decode b_Md_weeps 75 = .ok (.aload_n 0, 1) := by decide +kernel
theorem d_Md_weeps_76 : decode b_Md_weeps 76 = .ok (.bipush 71, 2) := by decide +kernel
theorem d_Md_weeps_78 : decode b_Md_weeps 78 = .ok (.invokevirtual 345, 3) := by decide +kernel
theorem d_Md_weeps_81 : decode b_Md_weeps 81 = .ok (.aload_n 0, 1) := by decide +kernel
theorem d_Md_weeps_82 : decode b_Md_weeps 82 = .ok (.iload_n 1, 1) := by decide +kernel
theorem d_Md_weeps_83 : decode b_Md_weeps 83 = .ok (.iconst 3, 1) := by decide +kernel
theorem d_Md_weeps_84 : decode b_Md_weeps 84 = .ok (.iload_n 3, 1) := by decide +kernel
theorem d_Md_weeps_85 : decode b_Md_weeps 85 = .ok (.invokevirtual 349, 3) := by decide +kernel
theorem d_Md_weeps_88 : decode b_Md_weeps 88 = .ok (.aload_n 0, 1) := by decide +kernel
theorem d_Md_weeps_89 : decode b_Md_weeps 89 = .ok (.getfield 15, 3) := by decide +kernel
theorem d_Md_weeps_92 : decode b_Md_weeps 92 = .ok (.iload_n 1, 1) := by decide +kernel
theorem d_Md_weeps_93 : decode b_Md_weeps 93 = .ok (.iaload, 1) := by decide +kernel
theorem d_Md_weeps_94 : decode b_Md_weeps 94 = .ok (.ixor, 1) := by decide +kernel
theorem d_Md_weeps_95 : decode b_Md_weeps 95 = .ok (.ireturn, 1) := by decide +kernel
theorem d_Md_weeps_96 : decode b_Md_weeps 96 = .ok (.aload_n 0, 1) := by decide +kernel
theorem d_Md_weeps_97 : decode b_Md_weeps 97 = .ok (.bipush 10, 2) := by decide +kernel
theorem d_Md_weeps_99 : decode b_Md_weeps 99 = .ok (.invokevirtual 345, 3) := by decide +kernel
theorem d_Md_weeps_102 : decode b_Md_weeps 102 = .ok (.iload_n 3, 1) := by decide +kernel
theorem d_Md_weeps_103 : decode b_Md_weeps 103 = .ok (.iload_n 1, 1) := by decide +kernel
theorem d_Md_weeps_104 : decode b_Md_weeps 104 = .ok (.iadd, 1) := by decide +kernel
theorem d_Md_weeps_105 : decode b_Md_weeps 105 = .ok (.ireturn, 1) := by decide +kernel
theorem d_Md_weeps_106 : decode b_Md_weeps 106 = .ok (.aload_n 0, 1) := by decide +kernel
theorem d_Md_weeps_107 : decode b_Md_weeps 107 = .ok (.iload_n 1, 1) := by decide +kernel
theorem d_Md_weeps_108 : decode b_Md_weeps 108 = .ok (.iload_n 2, 1) := by decide +kernel
theorem d_Md_weeps_109 : decode b_Md_weeps 109 = .ok (.invokestatic 352, 3) := by decide +kernel
theorem d_Md_weeps_112 : decode b_Md_weeps 112 = .ok (.iload_n 3, 1) := by decide +kernel
theorem d_Md_weeps_113 : decode b_Md_weeps 113 = .ok (.invokevirtual 349, 3) := by decide +kernel
theorem d_Md_weeps_116 : decode b_Md_weeps 116 = .ok (.ireturn, 1) := by decide +kernel
theorem d_Md_waits_0 : decode b_Md_waits 0 = .ok (.iload_n 2, 1) := by decide +kernel
theorem d_Md_waits_1 : decode b_Md_waits 1 = .ok (.tableswitch 128 0 6 #[102, 43, 128, 128, 60, 128, 76], 43) := by decide +kernel
theorem d_Md_waits_44 : decode b_Md_waits 44 = .ok (.aload_n 0, 1) := by decide +kernel
theorem d_Md_waits_45 : decode b_Md_waits 45 = .ok (.bipush 20, 2) := by decide +kernel
theorem d_Md_waits_47 : decode b_Md_waits 47 = .ok (.invokevirtual 345, 3) := by decide +kernel
theorem d_Md_waits_50 : decode b_Md_waits 50 = .ok (.aload_n 0, 1) := by decide +kernel
theorem d_Md_waits_51 : decode b_Md_waits 51 = .ok (.iload_n 1, 1) := by decide +kernel
theorem d_Md_waits_52 : decode b_Md_waits 52 = .ok (.iconst 0, 1) := by decide +kernel
theorem d_Md_waits_53 : decode b_Md_waits 53 = .ok (.iload_n 3, 1) := by decide +kernel
theorem d_Md_waits_54 : decode b_Md_waits 54 = .ok (.invokevirtual 355, 3) := by decide +kernel
theorem d_Md_waits_57 : decode b_Md_waits 57 = .ok (.bipush 6, 2) := by decide +kernel
theorem d_Md_waits_59 : decode b_Md_waits 59 = .ok (.ixor, 1) := by decide +kernel
theorem d_Md_waits_60 : decode b_Md_waits 60 = .ok (.ireturn, 1) := by decide +kernel
theorem d_Md_waits_61 : decode b_Md_waits 61 = .ok (.aload_n 0, 1) := by decide +kernel
theorem d_Md_waits_62 : decode b_Md_waits 62 = .ok (.bipush 51, 2) := by decide +kernel
theorem d_Md_waits_64 : decode b_Md_waits 64 = .ok (.invokevirtual 345, 3) := by decide +kernel
theorem d_Md_waits_67 : decode b_Md_waits 67 = .ok (.aload_n 0, 1) := by decide +kernel
theorem d_Md_waits_68 : decode b_Md_waits 68 = .ok (.iload_n 1, 1) := by decide +kernel
theorem d_Md_waits_69 : decode b_Md_waits 69 = .ok (.iconst 1, 1) := by decide +kernel
theorem d_Md_waits_70 : decode b_Md_waits 70 = .ok (.iload_n 3, 1) := by decide +kernel
theorem d_Md_waits_71 : decode b_Md_waits 71 = .ok (.iconst 1, 1) := by decide +kernel
theorem d_Md_waits_72 : decode b_Md_waits 72 = .ok (.iadd, 1) := by decide +kernel
theorem d_Md_waits_73 : decode b_Md_waits 73 = .ok (.invokevirtual 355, 3) := by decide +kernel
theorem d_Md_waits_76 : decode b_Md_waits 76 = .ok (.ireturn, 1) := by decide +kernel
theorem d_Md_waits_77 : decode b_Md_waits 77 = .ok (.aload_n 0, 1) := by decide +kernel
theorem d_Md_waits_78 : decode b_Md_waits 78 = .ok (.bipush 70, 2) := by decide +kernel
theorem d_Md_waits_80 : decode b_Md_waits 80 = .ok (.invokevirtual 345, 3) := by decide +kernel
theorem d_Md_waits_83 : decode b_Md_waits 83 = .ok (.aload_n 0, 1) := by decide +kernel
theorem d_Md_waits_84 : decode b_Md_waits 84 = .ok (.iload_n 1, 1) := by decide +kernel
theorem d_Md_waits_85 : decode b_Md_waits 85 = .ok (.iconst 3, 1) := by decide +kernel
theorem d_Md_waits_86 : decode b_Md_waits 86 = .ok (.iload_n 3, 1) := by decide +kernel
theorem d_Md_waits_87 : decode b_Md_waits 87 = .ok (.invokevirtual 355, 3) := by decide +kernel
theorem d_Md_waits_90 : decode b_Md_waits 90 = .ok (.istore 4, 2) := by decide +kernel
theorem d_Md_waits_92 : decode b_Md_waits 92 = .ok (.iload 4, 2) := by decide +kernel
theorem d_Md_waits_94 : decode b_Md_waits 94 = .ok (.aload_n 0, 1) := by decide +kernel
theorem d_Md_waits_95 : decode b_Md_waits 95 = .ok (.iload_n 1, 1) := by decide +kernel
theorem d_Md_waits_96 : decode b_Md_waits 96 = .ok (.iconst 3, 1) := by decide +kernel
theorem d_Md_waits_97 : decode b_Md_waits 97 = .ok (.iconst 2, 1) := by decide +kernel
theorem d_Md_waits_98 : decode b_Md_waits 98 = .ok (.invokevirtual 349, 3) := by decide +kernel
theorem d_Md_waits_101 : decode b_Md_waits 101 = .ok (.iadd, 1) := by decide +kernel
theorem d_Md_waits_102 : decode b_Md_waits 102 = .ok (.ireturn, 1) := by decide +kernel
theorem d_Md_waits_103 : decode b_Md_waits 103 = .ok (.aload_n 0, 1) := by decide +kernel
theorem d_Md_waits_104 : decode b_Md_waits 104 = .ok (.bipush 11, 2) := by decide +kernel
theorem d_Md_waits_106 : decode b_Md_waits 106 = .ok (.invokevirtual 345, 3) := by decide +kernel
theorem d_Md_waits_109 : decode b_Md_waits 109 = .ok (.aload_n 0, 1) := by decide +kernel
theorem d_Md_waits_110 : decode b_Md_waits 110 = .ok (.iload_n 1, 1) := by decide +kernel
theorem d_Md_waits_111 : decode b_Md_waits 111 = .ok (.aload_n 0, 1) := by decide +kernel
theorem d_Md_waits_112 : decode b_Md_waits 112 = .ok (.getfield 9, 3) := by decide +kernel
theorem d_Md_waits_115 : decode b_Md_waits 115 = .ok (.iload_n 1, 1) := by decide +kernel
theorem d_Md_waits_116 : decode b_Md_waits 116 = .ok (.iaload, 1) := by decide +kernel
theorem d_Md_waits_117 : decode b_Md_waits 117 = .ok (.iload_n 3, 1) := by decide +kernel
theorem d_Md_waits_118 : decode b_Md_waits 118 = .ok (.invokevirtual 349, 3) := by decide +kernel
theorem d_Md_waits_121 : decode b_Md_waits 121 = .ok (.aload_n 0, 1) := by decide +kernel
theorem d_Md_waits_122 : decode b_Md_waits 122 = .ok (.getfield 15, 3) := by decide +kernel
theorem d_Md_waits_125 : decode b_Md_waits 125 = .ok (.iload_n 1, 1) := by decide +kernel
theorem d_Md_waits_126 : decode b_Md_waits 126 = .ok (.iaload, 1) := by decide +kernel
theorem d_Md_waits_127 : decode b_Md_waits 127 = .ok (.isub, 1) := by decide +kernel
theorem d_Md_waits_128 : decode b_Md_waits 128 = .ok (.ireturn, 1) := by decide +kernel
theorem d_Md_waits_129 : decode b_Md_waits 129 = .ok (.aload_n 0, 1) := by decide +kernel
theorem d_Md_waits_130 : decode b_Md_waits 130 = .ok (.iload_n 1, 1) := by decide +kernel
theorem d_Md_waits_131 : decode b_Md_waits 131 = .ok (.iload_n 2, 1) := by decide +kernel
theorem d_Md_waits_132 : decode b_Md_waits 132 = .ok (.invokestatic 352, 3) := by decide +kernel
theorem d_Md_waits_135 : decode b_Md_waits 135 = .ok (.iload_n 3, 1) := by decide +kernel
theorem d_Md_waits_136 : decode b_Md_waits 136 = .ok (.invokevirtual 355, 3) := by decide +kernel
theorem d_Md_waits_139 : decode b_Md_waits 139 = .ok (.ireturn, 1) := by decide +kernel
theorem d_Md_tells_0 : decode b_Md_tells 0 = .ok (.iload_n 2, 1) := by decide +kernel
theorem d_Md_tells_1 : decode b_Md_tells 1 = .ok (.lookupswitch 103 #[(0, 82), (3, 35), (5, 66)], 35) := by decide +kernel
theorem d_Md_tells_36 : decode b_Md_tells 36 = .ok (.aload_n 0, 1) := by decide +kernel
theorem d_Md_tells_37 : decode b_Md_tells 37 = .ok (.bipush 40, 2) := by decide +kernel
theorem d_Md_tells_39 : decode b_Md_tells 39 = .ok (.invokevirtual 345, 3) := by decide +kernel
theorem d_Md_tells_42 : decode b_Md_tells 42 = .ok (.aload_n 0, 1) := by decide +kernel
theorem d_Md_tells_43 : decode b_Md_tells 43 = .ok (.iload_n 1, 1) := by decide +kernel
theorem d_Md_tells_44 : decode b_Md_tells 44 = .ok (.iconst 0, 1) := by decide +kernel
theorem d_Md_tells_45 : decode b_Md_tells 45 = .ok (.iload_n 3, 1) := by decide +kernel
theorem d_Md_tells_46 : decode b_Md_tells 46 = .ok (.invokevirtual 358, 3) := by decide +kernel
theorem d_Md_tells_49 : decode b_Md_tells 49 = .ok (.istore 4, 2) := by decide +kernel
theorem d_Md_tells_51 : decode b_Md_tells 51 = .ok (.iload 4, 2) := by decide +kernel
theorem d_Md_tells_53 : decode b_Md_tells 53 = .ok (.aload_n 0, 1) := by decide +kernel
theorem d_Md_tells_54 : decode b_Md_tells 54 = .ok (.iload_n 1, 1) := by decide +kernel
theorem d_Md_tells_55 : decode b_Md_tells 55 = .ok (.aload_n 0, 1) := by decide +kernel
theorem d_Md_tells_56 : decode b_Md_tells 56 = .ok (.getfield 9, 3) := by decide +kernel
theorem d_Md_tells_59 : decode b_Md_tells 59 = .ok (.iload_n 1, 1) := by decide +kernel
theorem d_Md_tells_60 : decode b_Md_tells 60 = .ok (.iaload, 1) := by decide +kernel
theorem d_Md_tells_61 : decode b_Md_tells 61 = .ok (.iconst 1, 1) := by decide +kernel
theorem d_Md_tells_62 : decode b_Md_tells 62 = .ok (.invokevirtual 355, 3) := by decide +kernel
theorem d_Md_tells_65 : decode b_Md_tells 65 = .ok (.iadd, 1) := by decide +kernel
theorem d_Md_tells_66 : decode b_Md_tells 66 = .ok (.ireturn, 1) := by decide +kernel
theorem d_Md_tells_67 : decode b_Md_tells 67 = .ok (.aload_n 0, 1) := by decide +kernel
theorem d_Md_tells_68 : decode b_Md_tells 68 = .ok (.bipush 60, 2) := by decide +kernel
theorem d_Md_tells_70 : decode b_Md_tells 70 = .ok (.invokevirtual 345, 3) := by decide +kernel
theorem d_Md_tells_73 : decode b_Md_tells 73 = .ok (.aload_n 0, 1) := by decide +kernel
theorem d_Md_tells_74 : decode b_Md_tells 74 = .ok (.iload_n 1, 1) := by decide +kernel
theorem d_Md_tells_75 : decode b_Md_tells 75 = .ok (.iconst 2, 1) := by decide +kernel
theorem d_Md_tells_76 : decode b_Md_tells 76 = .ok (.iload_n 3, 1) := by decide +kernel
theorem d_Md_tells_77 : decode b_Md_tells 77 = .ok (.iload_n 1, 1) := by decide +kernel
theorem d_Md_tells_78 : decode b_Md_tells 78 = .ok (.isub, 1) := by decide +kernel
theorem d_Md_tells_79 : decode b_Md_tells 79 = .ok (.invokevirtual 358, 3) := by decide +kernel
theorem d_Md_tells_82 : decode b_Md_tells 82 = .ok (.ireturn, 1) := by decide +kernel
theorem d_Md_tells_83 : decode b_Md_tells 83 = .ok (.aload_n 0, 1) := by decide +kernel
theorem d_Md_tells_84 : decode b_Md_tells 84 = .ok (.bipush 12, 2) := by decide +kernel
theorem d_Md_tells_86 : decode b_Md_tells 86 = .ok (.invokevirtual 345, 3) := by decide +kernel
theorem d_Md_tells_89 : decode b_Md_tells 89 = .ok (.aload_n 0, 1) := by decide +kernel
theorem d_Md_tells_90 : decode b_Md_tells 90 = .ok (.iload_n 1, 1) := by decide +kernel
theorem d_Md_tells_91 : decode b_Md_tells 91 = .ok (.aload_n 0, 1) := by decide +kernel
theorem d_Md_tells_92 : decode b_Md_tells 92 = .ok (.getfield 9, 3) := by decide +kernel
theorem d_Md_tells_95 : decode b_Md_tells 95 = .ok (.iload_n 1, 1) := by decide +kernel
theorem d_Md_tells_96 : decode b_Md_tells 96 = .ok (.iaload, 1) := by decide +kernel
theorem d_Md_tells_97 : decode b_Md_tells 97 = .ok (.iload_n 3, 1) := by decide +kernel
theorem d_Md_tells_98 : decode b_Md_tells 98 = .ok (.invokevirtual 355, 3) := by decide +kernel
theorem d_Md_tells_101 : decode b_Md_tells 101 = .ok (.iconst 2, 1) := by decide +kernel
theorem d_Md_tells_102 : decode b_Md_tells 102 = .ok (.imul, 1) := by decide +kernel
theorem d_Md_tells_103 : decode b_Md_tells 103 = .ok (.ireturn, 1) := by decide +kernel
theorem d_Md_tells_104 : decode b_Md_tells 104 = .ok (.aload_n 0, 1) := by decide +kernel
theorem d_Md_tells_105 : decode b_Md_tells 105 = .ok (.iload_n 1, 1) := by decide +kernel
theorem d_Md_tells_106 : decode b_Md_tells 106 = .ok (.iload_n 2, 1) := by decide +kernel
theorem d_Md_tells_107 : decode b_Md_tells 107 = .ok (.invokestatic 352, 3) := by decide +kernel
theorem d_Md_tells_110 : decode b_Md_tells 110 = .ok (.iload_n 3, 1) := by decide +kernel
theorem d_Md_tells_111 : decode b_Md_tells 111 = .ok (.invokevirtual 358, 3) := by decide +kernel
theorem d_Md_tells_114 : decode b_Md_tells 114 = .ok (.ireturn, 1) := by decide +kernel
theorem d_Md_act_0 : decode b_Md_act 0 = .ok (.aload_n 0, 1) := by decide +kernel
theorem d_Md_act_1 : decode b_Md_act 1 = .ok (.iconst 0, 1) := by decide +kernel
theorem d_Md_act_2 : decode b_Md_act 2 = .ok (.putfield 342, 3) := by decide +kernel
theorem d_Md_act_5 : decode b_Md_act 5 = .ok (.aload_n 0, 1) := by decide +kernel
theorem d_Md_act_6 : decode b_Md_act 6 = .ok (.iload_n 1, 1) := by decide +kernel
theorem d_Md_act_7 : decode b_Md_act 7 = .ok (.invokevirtual 127, 3) := by decide +kernel
theorem d_Md_act_10 : decode b_Md_act 10 = .ok (.ifCond .eq 12, 3) := by decide +kernel
theorem d_Md_act_13 : decode b_Md_act 13 = .ok (.iload_n 2, 1) := by decide +kernel
theorem d_Md_act_14 : decode b_Md_act 14 = .ok (.iconst 0, 1) := by decide +kernel
theorem d_Md_act_15 : decode b_Md_act 15 = .ok (.iconst 2, 1) := by decide +kernel
theorem d_Md_act_16 : decode b_Md_act 16 = .ok (.invokestatic 120, 3) := by decide +kernel
theorem d_Md_act_19 : decode b_Md_act 19 = .ok (.ifCond .ne 5, 3) := by decide +kernel
theorem d_Md_act_22 : decode b_Md_act 22 = .ok (.iconst 0, 1) := by decide +kernel
theorem d_Md_act_23 : decode b_Md_act 23 = .ok (.ireturn, 1) := by decide +kernel
theorem d_Md_act_24 : decode b_Md_act 24 = .ok (.aload_n 0, 1) := by decide +kernel
theorem d_Md_act_25 : decode b_Md_act 25 = .ok (.getfield 9, 3) := by decide +kernel
theorem d_Md_act_28 : decode b_Md_act 28 = .ok (.iload_n 1, 1) := by decide +kernel
theorem d_Md_act_29 : decode b_Md_act 29 = .ok (.iaload, 1) := by decide +kernel
theorem d_Md_act_30 : decode b_Md_act 30 = .ok (.istore 4, 2) := by decide +kernel
theorem d_Md_act_32 : decode b_Md_act 32 = .ok (.iload_n 2, 1) := by decide +kernel
theorem d_Md_act_33 : decode b_Md_act 33 = .ok (.ifCond .ne 14, 3) := by decide +kernel
theorem d_Md_act_36 : decode b_Md_act 36 = .ok (.aload_n 0, 1) := by decide +kernel
theorem d_Md_act_37 : decode b_Md_act 37 = .ok (.iload_n 1, 1) := by decide +kernel
theorem d_Md_act_38 : decode b_Md_act 38 = .ok (.iload 4, 2) := by decide +kernel
theorem d_Md_act_40 : decode b_Md_act 40 = .ok (.iload_n 3, 1) := by decide +kernel
theorem d_Md_act_41 : decode b_Md_act 41 = .ok (.invokevirtual 349, 3) := by decide +kernel
theorem d_Md_act_44 : decode b_Md_act 44 = .ok (.goto 27, 3) := by decide +kernel
theorem d_Md_act_47 : decode b_Md_act 47 = .ok (.iload_n 2, 1) := by decide +kernel
theorem d_Md_act_48 : decode b_Md_act 48 = .ok (.iconst 1, 1) := by decide +kernel
theorem d_Md_act_49 : decode b_Md_act 49 = .ok (.if_icmp .ne 14, 3) := by decide +kernel
theorem d_Md_act_52 : decode b_Md_act 52 = .ok (.aload_n 0, 1) := by decide +kernel
theorem d_Md_act_53 : decode b_Md_act 53 = .ok (.iload_n 1, 1) := by decide +kernel
theorem d_Md_act_54 : decode b_Md_act 54 = .ok (.iload 4, 2) := by decide +kernel
theorem d_Md_act_56 : decode b_Md_act 56 = .ok (.iload_n 3, 1) := by decide +kernel
theorem d_Md_act_57 : decode b_Md_act 57 = .ok (.invokevirtual 355, 3) := by decide +kernel
theorem d_Md_act_60 : decode b_Md_act 60 = .ok (.goto 11, 3) := by decide +kernel
theorem d_Md_act_63 : decode b_Md_act 63 = .ok (.aload_n 0, 1) := by decide +kernel
theorem d_Md_act_64 : decode b_Md_act 64 = .ok (.iload_n 1, 1) := by decide +kernel
theorem d_Md_act_65 : decode b_Md_act 65 = .ok (.iload 4, 2) := by decide +kernel
theorem d_Md_act_67 : decode b_Md_act 67 = .ok (.iload_n 3, 1) := by decide +kernel
theorem d_Md_act_68 : decode b_Md_act 68 = .ok (.invokevirtual 358, 3) := by decide +kernel
theorem d_Md_act_71 : decode b_Md_act 71 = .ok (.ireturn, 1) := by decide +kernel
theorem d_Md_trace_0 : decode b_Md_trace 0 = .ok (.iload_n 1, 1) := by decide +kernel
theorem d_Md_trace_1 : decode b_Md_trace 1 = .ok (.iconst 0, 1) := by decide +kernel
theorem d_Md_trace_2 : decode b_Md_trace 2 = .ok (.bipush 20, 2) := by decide +kernel
theorem d_Md_trace_4 : decode b_Md_trace 4 = .ok (.aload_n 0, 1) := by decide +kernel
theorem d_Md_trace_5 : decode b_Md_trace 5 = .ok (.getfield 342, 3) := by decide +kernel
theorem d_Md_trace_8 : decode b_Md_trace 8 = .ok (.invokestatic 247, 3) := by decide +kernel
theorem d_Md_trace_11 : decode b_Md_trace 11 = .ok (.iconst 1, 1) := by decide +kernel
theorem d_Md_trace_12 : decode b_Md_trace 12 = .ok (.isub, 1) := by decide +kernel
theorem d_Md_trace_13 : decode b_Md_trace 13 = .ok (.invokestatic 120, 3) := by decide +kernel
theorem d_Md_trace_16 : decode b_Md_trace 16 = .ok (.ifCond .eq 12, 3) := by decide +kernel
theorem d_Md_trace_19 : decode b_Md_trace 19 = .ok (.aload_n 0, 1) := by decide +kernel
theorem d_Md_trace_20 : decode b_Md_trace 20 = .ok (.getfield 82, 3) := by decide +kernel
theorem d_Md_trace_23 : decode b_Md_trace 23 = .ok (.iload_n 1, 1) := by decide +kernel
theorem d_Md_trace_24 : decode b_Md_trace 24 = .ok (.iaload, 1) := by decide +kernel
theorem d_Md_trace_25 : decode b_Md_trace 25 = .ok (.goto 4, 3) := by decide +kernel
theorem d_Md_trace_28 : decode b_Md_trace 28 = .ok (.iconst (-1), 1) := by decide +kernel
theorem d_Md_trace_29 : decode b_Md_trace 29 = .ok (.ireturn, 1) := by decide +kernel
theorem d_Md_taken_0 : decode b_Md_taken 0 = .ok (.iload_n 2, 1) := by decide +kernel
theorem d_Md_taken_1 : decode b_Md_taken 1 = .ok (.iconst 0, 1) := by decide +kernel
theorem d_Md_taken_2 : decode b_Md_taken 2 = .ok (.bipush 6, 2) := by decide +kernel
theorem d_Md_taken_4 : decode b_Md_taken 4 = .ok (.invokestatic 120, 3) := by decide +kernel
theorem d_Md_taken_7 : decode b_Md_taken 7 = .ok (.ifCond .ne 6, 3) := by decide +kernel
theorem d_Md_taken_10 : decode b_Md_taken 10 = .ok (.bipush (-2), 2) := by decide +kernel
theorem d_Md_taken_12 : decode b_Md_taken 12 = .ok (.ireturn, 1) := by decide +kernel
theorem d_Md_taken_13 : decode b_Md_taken 13 = .ok (.aload_n 0, 1) := by decide +kernel
theorem d_Md_taken_14 : decode b_Md_taken 14 = .ok (.iload_n 1, 1) := by decide +kernel
theorem d_Md_taken_15 : decode b_Md_taken 15 = .ok (.invokevirtual 127, 3) := by decide +kernel
theorem d_Md_taken_18 : decode b_Md_taken 18 = .ok (.ifCond .ne 6, 3) := by decide +kernel
theorem d_Md_taken_21 : decode b_Md_taken 21 = .ok (.bipush (-11), 2) := by decide +kernel
theorem d_Md_taken_23 : decode b_Md_taken 23 = .ok (.ireturn, 1) := by decide +kernel
theorem d_Md_taken_24 : decode b_Md_taken 24 = .ok (.aload_n 0, 1) := by decide +kernel
theorem d_Md_taken_25 : decode b_Md_taken 25 = .ok (.getfield 9, 3) := by decide +kernel
theorem d_Md_taken_28 : decode b_Md_taken 28 = .ok (.iload_n 1, 1) := by decide +kernel
theorem d_Md_taken_29 : decode b_Md_taken 29 = .ok (.iaload, 1) := by decide +kernel
theorem d_Md_taken_30 : decode b_Md_taken 30 = .ok (.istore_n 3, 1) := by decide +kernel
theorem d_Md_taken_31 : decode b_Md_taken 31 = .ok (.iload_n 3, 1) := by decide +kernel
theorem d_Md_taken_32 : decode b_Md_taken 32 = .ok (.iload_n 2, 1) := by decide +kernel
theorem d_Md_taken_33 : decode b_Md_taken 33 = .ok (.if_icmp .eq 15, 3) := by decide +kernel
theorem d_Md_taken_36 : decode b_Md_taken 36 = .ok (.iload_n 3, 1) := by decide +kernel
theorem d_Md_taken_37 : decode b_Md_taken 37 = .ok (.ifCond .le 11, 3) := by decide +kernel
theorem d_Md_taken_40 : decode b_Md_taken 40 = .ok (.iload_n 3, 1) := by decide +kernel
theorem d_Md_taken_41 : decode b_Md_taken 41 = .ok (.invokestatic 352, 3) := by decide +kernel
theorem d_Md_taken_44 : decode b_Md_taken 44 = .ok (.istore_n 3, 1) := by decide +kernel
theorem d_Md_taken_45 : decode b_Md_taken 45 = .ok (.goto (-14), 3) := by decide +kernel
theorem d_Md_taken_48 : decode b_Md_taken 48 = .ok (.iload_n 3, 1) := by decide +kernel
theorem d_Md_taken_49 : decode b_Md_taken 49 = .ok (.iload_n 2, 1) := by decide +kernel
theorem d_Md_taken_50 : decode b_Md_taken 50 = .ok (.if_icmp .ne 12, 3) := by decide +kernel
theorem d_Md_taken_53 : decode b_Md_taken 53 = .ok (.aload_n 0, 1) := by decide +kernel
theorem d_Md_taken_54 : decode b_Md_taken 54 = .ok (.getfield 9, 3) := by decide +kernel
theorem d_Md_taken_57 : decode b_Md_taken 57 = .ok (.iload_n 1, 1) := by decide +kernel
theorem d_Md_taken_58 : decode b_Md_taken 58 = .ok (.iaload, 1) := by decide +kernel
theorem d_Md_taken_59 : decode b_Md_taken 59 = .ok (.goto 5, 3) := by decide +kernel
theorem d_Md_taken_62 : decode b_Md_taken 62 = .ok (.bipush (-12), 2) := by decide +kernel
theorem d_Md_taken_64 : decode b_Md_taken 64 = .ok (.ireturn, 1) := by decide +kernel
theorem d_Md_count_0 : decode b_Md_count 0 = .ok (.iload_n 1, 1) := by decide +kernel
theorem d_Md_count_1 : decode b_Md_count 1 = .ok (.tableswitch 87 0 7 #[47, 52, 57, 62, 67, 72, 77, 82], 47) := by decide +kernel
theorem d_Md_count_48 : decode b_Md_count 48 = .ok (.aload_n 0, 1) := by decide +kernel
theorem d_Md_count_49 : decode b_Md_count 49 = .ok (.getfield 117, 3) := by decide +kernel
theorem d_Md_count_52 : decode b_Md_count 52 = .ok (.ireturn, 1) := by decide +kernel
theorem d_Md_count_53 : decode b_Md_count 53 = .ok (.aload_n 0, 1) := by decide +kernel
theorem d_Md_count_54 : decode b_Md_count 54 = .ok (.getfield 215, 3) := by decide +kernel
theorem d_Md_count_57 : decode b_Md_count 57 = .ok (.ireturn, 1) := by decide +kernel
theorem d_Md_count_58 : decode b_Md_count 58 = .ok (.aload_n 0, 1) := by decide +kernel
theorem d_Md_count_59 : decode b_Md_count 59 = .ok (.getfield 124, 3) := by decide +kernel
theorem d_Md_count_62 : decode b_Md_count 62 = .ok (.ireturn, 1) := by decide +kernel
theorem d_Md_count_63 : decode b_Md_count 63 = .ok (.aload_n 0, 1) := by decide +kernel
theorem d_Md_count_64 : decode b_Md_count 64 = .ok (.getfield 314, 3) := by decide +kernel
theorem d_Md_count_67 : decode b_Md_count 67 = .ok (.ireturn, 1) := by decide +kernel
theorem d_Md_count_68 : decode b_Md_count 68 = .ok (.aload_n 0, 1) := by decide +kernel
theorem d_Md_count_69 : decode b_Md_count 69 = .ok (.getfield 333, 3) := by decide +kernel
theorem d_Md_count_72 : decode b_Md_count 72 = .ok (.ireturn, 1) := by decide +kernel
theorem d_Md_count_73 : decode b_Md_count 73 = .ok (.aload_n 0, 1) := by decide +kernel
theorem d_Md_count_74 : decode b_Md_count 74 = .ok (.getfield 336, 3) := by decide +kernel
theorem d_Md_count_77 : decode b_Md_count 77 = .ok (.ireturn, 1) := by decide +kernel
theorem d_Md_count_78 : decode b_Md_count 78 = .ok (.aload_n 0, 1) := by decide +kernel
theorem d_Md_count_79 : decode b_Md_count 79 = .ok (.getfield 143, 3) := by decide +kernel
theorem d_Md_count_82 : decode b_Md_count 82 = .ok (.ireturn, 1) := by decide +kernel
theorem d_Md_count_83 : decode b_Md_count 83 = .ok (.aload_n 0, 1) := by decide +kernel
theorem d_Md_count_84 : decode b_Md_count 84 = .ok (.getfield 342, 3) := by decide +kernel
theorem d_Md_count_87 : decode b_Md_count 87 = .ok (.ireturn, 1) := by decide +kernel
theorem d_Md_count_88 : decode b_Md_count 88 = .ok (.bipush (-2), 2) := by decide +kernel
theorem d_Md_count_90 : decode b_Md_count 90 = .ok (.ireturn, 1) := by decide +kernel
theorem d_Md_isTape_0 : decode b_Md_isTape 0 = .ok (.iload_n 0, 1) := by decide +kernel
theorem d_Md_isTape_1 : decode b_Md_isTape 1 = .ok (.iconst 0, 1) := by decide +kernel
theorem d_Md_isTape_2 : decode b_Md_isTape 2 = .ok (.iconst 5, 1) := by decide +kernel
theorem d_Md_isTape_3 : decode b_Md_isTape 3 = .ok (.invokestatic 120, 3) := by decide +kernel
theorem d_Md_isTape_6 : decode b_Md_isTape 6 = .ok (.ireturn, 1) := by decide +kernel
theorem d_Md_tape_0 : decode b_Md_tape 0 = .ok (.iload_n 1, 1) := by decide +kernel
theorem d_Md_tape_1 : decode b_Md_tape 1 = .ok (.invokestatic 361, 3) := by decide +kernel
theorem d_Md_tape_4 : decode b_Md_tape 4 = .ok (.ifCond .ne 5, 3) := by decide +kernel
theorem d_Md_tape_7 : decode b_Md_tape 7 = .ok (.iconst (-1), 1) := by decide +kernel
theorem d_Md_tape_8 : decode b_Md_tape 8 = .ok (.ireturn, 1) := by decide +kernel
theorem d_Md_tape_9 : decode b_Md_tape 9 = .ok (.iload_n 2, 1) := by decide +kernel
theorem d_Md_tape_10 : decode b_Md_tape 10 = .ok (.iconst (-1), 1) := by decide +kernel
theorem d_Md_tape_11 : decode b_Md_tape 11 = .ok (.iconst 4, 1) := by decide +kernel
theorem d_Md_tape_12 : decode b_Md_tape 12 = .ok (.invokestatic 120, 3) := by decide +kernel
theorem d_Md_tape_15 : decode b_Md_tape 15 = .ok (.ifCond .eq 13, 3) := by decide +kernel
theorem d_Md_tape_18 : decode b_Md_tape 18 = .ok (.iload_n 2, 1) := by decide +kernel
theorem d_Md_tape_19 : decode b_Md_tape 19 = .ok (.ifCond .lt 12, 3) := by decide +kernel
theorem d_Md_tape_22 : decode b_Md_tape 22 = .ok (.iload_n 3, 1) := by decide +kernel
theorem d_Md_tape_23 : decode b_Md_tape 23 = .ok (.bipush 60, 2) := by decide +kernel
theorem d_Md_tape_25 : decode b_Md_tape 25 = .ok (.if_icmp .le 6, 3) := by decide +kernel
theorem d_Md_tape_28 : decode b_Md_tape 28 = .ok (.bipush (-2), 2) := by decide +kernel
theorem d_Md_tape_30 : decode b_Md_tape 30 = .ok (.ireturn, 1) := by decide +kernel
theorem d_Md_tape_31 : decode b_Md_tape 31 = .ok (.iload_n 2, 1) := by decide +kernel
theorem d_Md_tape_32 : decode b_Md_tape 32 = .ok (.ifCond .lt 10, 3) := by decide +kernel
theorem d_Md_tape_35 : decode b_Md_tape 35 = .ok (.iload_n 3, 1) := by decide +kernel
theorem d_Md_tape_36 : decode b_Md_tape 36 = .ok (.ifCond .ge 6, 3) := by decide +kernel
theorem d_Md_tape_39 : decode b_Md_tape 39 = .ok (.bipush (-14), 2) := by decide +kernel
theorem d_Md_tape_41 : decode b_Md_tape 41 = .ok (.ireturn, 1) := by decide +kernel
theorem d_Md_tape_42 : decode b_Md_tape 42 = .ok (.aload_n 0, 1) := by decide +kernel
theorem d_Md_tape_43 : decode b_Md_tape 43 = .ok (.getfield 103, 3) := by decide +kernel
theorem d_Md_tape_46 : decode b_Md_tape 46 = .ok (.iload_n 1, 1) := by decide +kernel
theorem d_Md_tape_47 : decode b_Md_tape 47 = .ok (.iload_n 2, 1) := by decide +kernel
theorem d_Md_tape_48 : decode b_Md_tape 48 = .ok (.iastore, 1) := by decide +kernel
theorem d_Md_tape_49 : decode b_Md_tape 49 = .ok (.aload_n 0, 1) := by decide +kernel
theorem d_Md_tape_50 : decode b_Md_tape 50 = .ok (.getfield 106, 3) := by decide +kernel
theorem d_Md_tape_53 : decode b_Md_tape 53 = .ok (.iload_n 1, 1) := by decide +kernel
theorem d_Md_tape_54 : decode b_Md_tape 54 = .ok (.iload_n 2, 1) := by decide +kernel
theorem d_Md_tape_55 : decode b_Md_tape 55 = .ok (.ifCond .ge 7, 3) := by decide +kernel
theorem d_Md_tape_58 : decode b_Md_tape 58 = .ok (.iconst 0, 1) := by decide +kernel
theorem d_Md_tape_59 : decode b_Md_tape 59 = .ok (.goto 4, 3) := by decide +kernel
theorem d_Md_tape_62 : decode b_Md_tape 62 = .ok (.iload_n 3, 1) := by decide +kernel
theorem d_Md_tape_63 : decode b_Md_tape 63 = .ok (.iastore, 1) := by decide +kernel
theorem d_Md_tape_64 : decode b_Md_tape 64 = .ok (.iconst 0, 1) := by decide +kernel
theorem d_Md_tape_65 : decode b_Md_tape 65 = .ok (.istore 4, 2) := by decide +kernel
theorem d_Md_tape_67 : decode b_Md_tape 67 = .ok (.iload 4, 2) := by decide +kernel
theorem d_Md_tape_69 : decode b_Md_tape 69 = .ok (.bipush 60, 2) := by decide +kernel
theorem d_Md_tape_71 : decode b_Md_tape 71 = .ok (.if_icmp .ge 22, 3) := by decide +kernel
theorem d_Md_tape_74 : decode b_Md_tape 74 = .ok (.aload_n 0, 1) := by decide +kernel
theorem d_Md_tape_75 : decode b_Md_tape 75 = .ok (.getfield 109, 3) := by decide +kernel
theorem d_Md_tape_78 : decode b_Md_tape 78 = .ok (.bipush 60, 2) := by decide +kernel
theorem d_Md_tape_80 : decode b_Md_tape 80 = .ok (.iload_n 1, 1) := by decide +kernel
theorem d_Md_tape_81 : decode b_Md_tape 81 = .ok (.imul, 1) := by decide +kernel
theorem d_Md_tape_82 : decode b_Md_tape 82 = .ok (.iload 4, 2) := by decide +kernel
theorem d_Md_tape_84 : decode b_Md_tape 84 = .ok (.iadd, 1) := by decide +kernel
theorem d_Md_tape_85 : decode b_Md_tape 85 = .ok (.lconst 0, 1) := by decide +kernel
theorem d_Md_tape_86 : decode b_Md_tape 86 = .ok (.lastore, 1) := by decide +kernel
theorem d_Md_tape_87 : decode b_Md_tape 87 = .ok (.iinc 4 1, 3) := by decide +kernel
theorem d_Md_tape_90 : decode b_Md_tape 90 = .ok (.goto (-23), 3) := by decide +kernel
theorem d_Md_tape_93 : decode b_Md_tape 93 = .ok (.iconst 1, 1) := by decide +kernel
theorem d_Md_tape_94 : decode b_Md_tape 94 = .ok (.ireturn, 1) := by decide +kernel
theorem d_Md_kept_0 : decode b_Md_kept 0 = .ok (.iload_n 0, 1) := by decide +kernel
theorem d_Md_kept_1 : decode b_Md_kept 1 = .ok (.tableswitch 47 0 3 #[31, 36, 41, 45], 31) := by decide +kernel
theorem d_Md_kept_32 : decode b_Md_kept 32 = .ok (.lload_n 1, 1) := by decide +kernel
theorem d_Md_kept_33 : decode b_Md_kept 33 = .ok (.l2i, 1) := by decide +kernel
theorem d_Md_kept_34 : decode b_Md_kept 34 = .ok (.i2b, 1) := by decide +kernel
theorem d_Md_kept_35 : decode b_Md_kept 35 = .ok (.i2l, 1) := by decide +kernel
theorem d_Md_kept_36 : decode b_Md_kept 36 = .ok (.lreturn, 1) := by decide +kernel
theorem d_Md_kept_37 : decode b_Md_kept 37 = .ok (.lload_n 1, 1) := by decide +kernel
theorem d_Md_kept_38 : decode b_Md_kept 38 = .ok (.l2i, 1) := by decide +kernel
theorem d_Md_kept_39 : decode b_Md_kept 39 = .ok (.i2s, 1) := by decide +kernel
theorem d_Md_kept_40 : decode b_Md_kept 40 = .ok (.i2l, 1) := by decide +kernel
theorem d_Md_kept_41 : decode b_Md_kept 41 = .ok (.lreturn, 1) := by decide +kernel
theorem d_Md_kept_42 : decode b_Md_kept 42 = .ok (.lload_n 1, 1) := by decide +kernel
theorem d_Md_kept_43 : decode b_Md_kept 43 = .ok (.l2i, 1) := by decide +kernel
theorem d_Md_kept_44 : decode b_Md_kept 44 = .ok (.i2l, 1) := by decide +kernel
theorem d_Md_kept_45 : decode b_Md_kept 45 = .ok (.lreturn, 1) := by decide +kernel
theorem d_Md_kept_46 : decode b_Md_kept 46 = .ok (.lload_n 1, 1) := by decide +kernel
theorem d_Md_kept_47 : decode b_Md_kept 47 = .ok (.lreturn, 1) := by decide +kernel
theorem d_Md_kept_48 : decode b_Md_kept 48 = .ok (.lload_n 1, 1) := by decide +kernel
theorem d_Md_kept_49 : decode b_Md_kept 49 = .ok (.lconst 0, 1) := by decide +kernel
theorem d_Md_kept_50 : decode b_Md_kept 50 = .ok (.lcmp, 1) := by decide +kernel
theorem d_Md_kept_51 : decode b_Md_kept 51 = .ok (.ifCond .eq 7, 3) := by decide +kernel
theorem d_Md_kept_54 : decode b_Md_kept 54 = .ok (.lconst 1, 1) := by decide +kernel
theorem d_Md_kept_55 : decode b_Md_kept 55 = .ok (.goto 4, 3) := by decide +kernel
theorem d_Md_kept_58 : decode b_Md_kept 58 = .ok (.lconst 0, 1) := by decide +kernel
theorem d_Md_kept_59 : decode b_Md_kept 59 = .ok (.lreturn, 1) := by decide +kernel
theorem d_Md_item_0 : decode b_Md_item 0 = .ok (.iload_n 1, 1) := by decide +kernel
theorem d_Md_item_1 : decode b_Md_item 1 = .ok (.invokestatic 361, 3) := by decide +kernel
theorem d_Md_item_4 : decode b_Md_item 4 = .ok (.ifCond .ne 5, 3) := by decide +kernel
theorem d_Md_item_7 : decode b_Md_item 7 = .ok (.iconst (-1), 1) := by decide +kernel
theorem d_Md_item_8 : decode b_Md_item 8 = .ok (.ireturn, 1) := by decide +kernel
theorem d_Md_item_9 : decode b_Md_item 9 = .ok (.aload_n 0, 1) := by decide +kernel
theorem d_Md_item_10 : decode b_Md_item 10 = .ok (.getfield 103, 3) := by decide +kernel
theorem d_Md_item_13 : decode b_Md_item 13 = .ok (.iload_n 1, 1) := by decide +kernel
theorem d_Md_item_14 : decode b_Md_item 14 = .ok (.iaload, 1) := by decide +kernel
theorem d_Md_item_15 : decode b_Md_item 15 = .ok (.ifCond .ge 6, 3) := by decide +kernel
theorem d_Md_item_18 : decode b_Md_item 18 = .ok (.bipush (-11), 2) := by decide +kernel
theorem d_Md_item_20 : decode b_Md_item 20 = .ok (.ireturn, 1) := by decide +kernel
theorem d_Md_item_21 : decode b_Md_item 21 = .ok (.iload_n 2, 1) := by decide +kernel
theorem d_Md_item_22 : decode b_Md_item 22 = .ok (.iconst 0, 1) := by decide +kernel
theorem d_Md_item_23 : decode b_Md_item 23 = .ok (.aload_n 0, 1) := by decide +kernel
theorem d_Md_item_24 : decode b_Md_item 24 = .ok (.getfield 106, 3) := by decide +kernel
theorem d_Md_item_27 : decode b_Md_item 27 = .ok (.iload_n 1, 1) := by decide +kernel
theorem d_Md_item_28 : decode b_Md_item 28 = .ok (.iaload, 1) := by decide +kernel
theorem d_Md_item_29 : decode b_Md_item 29 = .ok (.iconst 1, 1) := by decide +kernel
theorem d_Md_item_30 : decode b_Md_item 30 = .ok (.isub, 1) := by decide +kernel
theorem d_Md_item_31 : decode b_Md_item 31 = .ok (.invokestatic 120, 3) := by decide +kernel
theorem d_Md_item_34 : decode b_Md_item 34 = .ok (.ifCond .ne 6, 3) := by decide +kernel
theorem d_Md_item_37 : decode b_Md_item 37 = .ok (.bipush (-13), 2) := by decide +kernel
theorem d_Md_item_39 : decode b_Md_item 39 = .ok (.ireturn, 1) := by decide +kernel
theorem d_Md_item_40 : decode b_Md_item 40 = .ok (.aload_n 0, 1) := by decide +kernel
theorem d_Md_item_41 : decode b_Md_item 41 = .ok (.getfield 109, 3) := by decide +kernel
theorem d_Md_item_44 : decode b_Md_item 44 = .ok (.bipush 60, 2) := by decide +kernel
theorem d_Md_item_46 : decode b_Md_item 46 = .ok (.iload_n 1, 1) := by decide +kernel
theorem d_Md_item_47 : decode b_Md_item 47 = .ok (.imul, 1) := by decide +kernel
theorem d_Md_item_48 : decode b_Md_item 48 = .ok (.iload_n 2, 1) := by decide +kernel
theorem d_Md_item_49 : decode b_Md_item 49 = .ok (.iadd, 1) := by decide +kernel
theorem d_Md_item_50 : decode b_Md_item 50 = .ok (.aload_n 0, 1) := by decide +kernel
theorem d_Md_item_51 : decode b_Md_item 51 = .ok (.getfield 103, 3) := by decide +kernel
theorem d_Md_item_54 : decode b_Md_item 54 = .ok (.iload_n 1, 1) := by decide +kernel
theorem d_Md_item_55 : decode b_Md_item 55 = .ok (.iaload, 1) := by decide +kernel
theorem d_Md_item_56 : decode b_Md_item 56 = .ok (.lload_n 3, 1) := by decide +kernel
theorem d_Md_item_57 : decode b_Md_item 57 = .ok (.invokestatic 364, 3) := by decide +kernel
theorem d_Md_item_60 : decode b_Md_item 60 = .ok (.lastore, 1) := by decide +kernel
theorem d_Md_item_61 : decode b_Md_item 61 = .ok (.iconst 1, 1) := by decide +kernel
theorem d_Md_item_62 : decode b_Md_item 62 = .ok (.ireturn, 1) := by decide +kernel
theorem d_Md_read_0 : decode b_Md_read 0 = .ok (.iload_n 1, 1) := by decide +kernel
theorem d_Md_read_1 : decode b_Md_read 1 = .ok (.invokestatic 361, 3) := by decide +kernel
theorem d_Md_read_4 : decode b_Md_read 4 = .ok (.ifCond .eq 42, 3) := by decide +kernel
theorem d_Md_read_7 : decode b_Md_read 7 = .ok (.aload_n 0, 1) := by decide +kernel
theorem d_Md_read_8 : decode b_Md_read 8 = .ok (.getfield 103, 3) := by decide +kernel
theorem d_Md_read_11 : decode b_Md_read 11 = .ok (.iload_n 1, 1) := by decide +kernel
theorem d_Md_read_12 : decode b_Md_read 12 = .ok (.iaload, 1) := by decide +kernel
theorem d_Md_read_13 : decode b_Md_read 13 = .ok (.ifCond .lt 33, 3) := by decide +kernel
theorem d_Md_read_16 : decode b_Md_read 16 = .ok (.iload_n 2, 1) := by decide +kernel
theorem d_Md_read_17 : decode b_Md_read 17 = .ok (.iconst 0, 1) := by decide +kernel
theorem d_Md_read_18 : decode b_Md_read 18 = .ok (.aload_n 0, 1) := by decide +kernel
theorem d_Md_read_19 : decode b_Md_read 19 = .ok (.getfield 106, 3) := by decide +kernel
theorem d_Md_read_22 : decode b_Md_read 22 = .ok (.iload_n 1, 1) := by decide +kernel
theorem d_Md_read_23 : decode b_Md_read 23 = .ok (.iaload, 1) := by decide +kernel
theorem d_Md_read_24 : decode b_Md_read 24 = .ok (.iconst 1, 1) := by decide +kernel
theorem d_Md_read_25 : decode b_Md_read 25 = .ok (.isub, 1) := by decide +kernel
theorem d_Md_read_26 : decode b_Md_read 26 = .ok (.invokestatic 120, 3) := by decide +kernel
theorem d_Md_read_29 : decode b_Md_read 29 = .ok (.ifCond .eq 17, 3) := by decide +kernel
theorem d_Md_read_32 : decode b_Md_read 32 = .ok (.aload_n 0, 1) := by decide +kernel
theorem d_Md_read_33 : decode b_Md_read 33 = .ok (.getfield 109, 3) := by decide +kernel
theorem d_Md_read_36 : decode b_Md_read 36 = .ok (.bipush 60, 2) := by decide +kernel
theorem d_Md_read_38 : decode b_Md_read 38 = .ok (.iload_n 1, 1) := by decide +kernel
theorem d_Md_read_39 : decode b_Md_read 39 = .ok (.imul, 1) := by decide +kernel
theorem d_Md_read_40 : decode b_Md_read 40 = .ok (.iload_n 2, 1) := by decide +kernel
theorem d_Md_read_41 : decode b_Md_read 41 = .ok (.iadd, 1) := by decide +kernel
theorem d_Md_read_42 : decode b_Md_read 42 = .ok (.laload, 1) := by decide +kernel
theorem d_Md_read_43 : decode b_Md_read 43 = .ok (.goto 6, 3) := by decide +kernel
theorem d_Md_read_46 : decode b_Md_read 46 = .ok (.ldc2_w 327, 3) := by decide +kernel
theorem d_Md_read_49 : decode b_Md_read 49 = .ok (.lreturn, 1) := by decide +kernel
theorem d_Md_shift_0 : decode b_Md_shift 0 = .ok (.iload_n 1, 1) := by decide +kernel
theorem d_Md_shift_1 : decode b_Md_shift 1 = .ok (.invokestatic 361, 3) := by decide +kernel
theorem d_Md_shift_4 : decode b_Md_shift 4 = .ok (.ifCond .eq 10, 3) := by decide +kernel
theorem d_Md_shift_7 : decode b_Md_shift 7 = .ok (.iload_n 3, 1) := by decide +kernel
theorem d_Md_shift_8 : decode b_Md_shift 8 = .ok (.invokestatic 361, 3) := by decide +kernel
theorem d_Md_shift_11 : decode b_Md_shift 11 = .ok (.ifCond .ne 5, 3) := by decide +kernel
theorem d_Md_shift_14 : decode b_Md_shift 14 = .ok (.iconst (-1), 1) := by decide +kernel
theorem d_Md_shift_15 : decode b_Md_shift 15 = .ok (.ireturn, 1) := by decide +kernel
theorem d_Md_shift_16 : decode b_Md_shift 16 = .ok (.aload_n 0, 1) := by decide +kernel
theorem d_Md_shift_17 : decode b_Md_shift 17 = .ok (.getfield 103, 3) := by decide +kernel
theorem d_Md_shift_20 : decode b_Md_shift 20 = .ok (.iload_n 1, 1) := by decide +kernel
theorem d_Md_shift_21 : decode b_Md_shift 21 = .ok (.iaload, 1) := by decide +kernel
theorem d_Md_shift_22 : decode b_Md_shift 22 = .ok (.ifCond .lt 12, 3) := by decide +kernel
theorem d_Md_shift_25 : decode b_Md_shift 25 = .ok (.aload_n 0, 1) := by decide +kernel
theorem d_Md_shift_26 : decode b_Md_shift 26 = .ok (.getfield 103, 3) := by decide +kernel
theorem d_Md_shift_29 : decode b_Md_shift 29 = .ok (.iload_n 3, 1) := by decide +kernel
theorem d_Md_shift_30 : decode b_Md_shift 30 = .ok (.iaload, 1) := by decide +kernel
theorem d_Md_shift_31 : decode b_Md_shift 31 = .ok (.ifCond .ge 6, 3) := by decide +kernel
theorem d_Md_shift_34 : decode b_Md_shift 34 = .ok (.bipush (-11), 2) := by decide +kernel
theorem d_Md_shift_36 : decode b_Md_shift 36 = .ok (.ireturn, 1) := by decide +kernel
theorem d_Md_shift_37 : decode b_Md_shift 37 = .ok (.aload_n 0, 1) := by decide +kernel
theorem d_Md_shift_38 : decode b_Md_shift 38 = .ok (.getfield 103, 3) := by decide +kernel
theorem d_Md_shift_41 : decode b_Md_shift 41 = .ok (.iload_n 1, 1) := by decide +kernel
theorem d_Md_shift_42 : decode b_Md_shift 42 = .ok (.iaload, 1) := by decide +kernel
theorem d_Md_shift_43 : decode b_Md_shift 43 = .ok (.aload_n 0, 1) := by decide +kernel
theorem d_Md_shift_44 : decode b_Md_shift 44 = .ok (.getfield 103, 3) := by decide +kernel
theorem d_Md_shift_47 : decode b_Md_shift 47 = .ok (.iload_n 3, 1) := by decide +kernel
theorem d_Md_shift_48 : decode b_Md_shift 48 = .ok (.iaload, 1) := by decide +kernel
theorem d_Md_shift_49 : decode b_Md_shift 49 = .ok (.if_icmp .eq 6, 3) := by decide +kernel
theorem d_Md_shift_52 : decode b_Md_shift 52 = .ok (.bipush (-12), 2) := by decide +kernel
theorem d_Md_shift_54 : decode b_Md_shift 54 = .ok (.ireturn, 1) := by decide +kernel
theorem d_Md_shift_55 : decode b_Md_shift 55 = .ok (.iload 5, 2) := by decide +kernel
theorem d_Md_shift_57 : decode b_Md_shift 57 = .ok (.ifCond .lt 47, 3) := by decide +kernel
theorem d_Md_shift_60 : decode b_Md_shift 60 = .ok (.iload_n 2, 1) := by decide +kernel
theorem d_Md_shift_61 : decode b_Md_shift 61 = .ok (.ifCond .lt 43, 3) := by decide +kernel
theorem d_Md_shift_64 : decode b_Md_shift 64 = .ok (.iload 4, 2) := by decide +kernel
theorem d_Md_shift_66 : decode b_Md_shift 66 = .ok (.ifCond .lt 38, 3) := by decide +kernel
theorem d_Md_shift_69 : decode b_Md_shift 69 = .ok (.iload_n 2, 1) := by decide +kernel
theorem d_Md_shift_70 : decode b_Md_shift 70 = .ok (.i2l, 1) := by decide +kernel
theorem d_Md_shift_71 : decode b_Md_shift 71 = .ok (.iload 5, 2) := by decide +kernel
theorem d_Md_shift_73 : decode b_Md_shift 73 = .ok (.i2l, 1) := by decide +kernel
theorem d_Md_shift_74 : decode b_Md_shift 74 = .ok (.ladd, 1) := by decide +kernel
theorem d_Md_shift_75 : decode b_Md_shift 75 = .ok (.aload_n 0, 1) := by decide +kernel
theorem d_Md_shift_76 : decode b_Md_shift 76 = .ok (.getfield 106, 3) := by decide +kernel
theorem d_Md_shift_79 : decode b_Md_shift 79 = .ok (.iload_n 1, 1) := by decide +kernel
theorem d_Md_shift_80 : decode b_Md_shift 80 = .ok (.iaload, 1) := by decide +kernel
theorem d_Md_shift_81 : decode b_Md_shift 81 = .ok (.i2l, 1) := by decide +kernel
theorem d_Md_shift_82 : decode b_Md_shift 82 = .ok (.lcmp, 1) := by decide +kernel
theorem d_Md_shift_83 : decode b_Md_shift 83 = .ok (.ifCond .gt 21, 3) := by decide +kernel
theorem d_Md_shift_86 : decode b_Md_shift 86 = .ok (.iload 4, 2) := by decide +kernel
theorem d_Md_shift_88 : decode b_Md_shift 88 = .ok (.i2l, 1) := by decide +kernel
theorem d_Md_shift_89 : decode b_Md_shift 89 = .ok (.iload 5, 2) := by decide +kernel
theorem d_Md_shift_91 : decode b_Md_shift 91 = .ok (.i2l, 1) := by decide +kernel
theorem d_Md_shift_92 : decode b_Md_shift 92 = .ok (.ladd, 1) := by decide +kernel
theorem d_Md_shift_93 : decode b_Md_shift 93 = .ok (.aload_n 0, 1) := by decide +kernel
theorem d_Md_shift_94 : decode b_Md_shift 94 = .ok (.getfield 106, 3) := by decide +kernel
theorem d_Md_shift_97 : decode b_Md_shift 97 = .ok (.iload_n 3, 1) := by decide +kernel
theorem d_Md_shift_98 : decode b_Md_shift 98 = .ok (.iaload, 1) := by decide +kernel
theorem d_Md_shift_99 : decode b_Md_shift 99 = .ok (.i2l, 1) := by decide +kernel
theorem d_Md_shift_100 : decode b_Md_shift 100 = .ok (.lcmp, 1) := by decide +kernel
theorem d_Md_shift_101 : decode b_Md_shift 101 = .ok (.ifCond .le 6, 3) := by decide +kernel
theorem d_Md_shift_104 : decode b_Md_shift 104 = .ok (.bipush (-13), 2) := by decide +kernel
theorem d_Md_shift_106 : decode b_Md_shift 106 = .ok (.ireturn, 1) := by decide +kernel
theorem d_Md_shift_107 : decode b_Md_shift 107 = .ok (.iload_n 1, 1) := by decide +kernel
theorem d_Md_shift_108 : decode b_Md_shift 108 = .ok (.iload_n 3, 1) := by decide +kernel
theorem d_Md_shift_109 : decode b_Md_shift 109 = .ok (.if_icmp .ne 58, 3) := by decide +kernel
theorem d_Md_shift_112 : decode b_Md_shift 112 = .ok (.iload_n 2, 1) := by decide +kernel
theorem d_Md_shift_113 : decode b_Md_shift 113 = .ok (.iload 4, 2) := by decide +kernel
theorem d_Md_shift_115 : decode b_Md_shift 115 = .ok (.if_icmp .ge 52, 3) := by decide +kernel
theorem d_Md_shift_118 : decode b_Md_shift 118 = .ok (.iload 5, 2) := by decide +kernel
theorem d_Md_shift_120 : decode b_Md_shift 120 = .ok (.iconst 1, 1) := by decide +kernel
theorem d_Md_shift_121 : decode b_Md_shift 121 = .ok (.isub, 1) := by decide +kernel
theorem d_Md_shift_122 : decode b_Md_shift 122 = .ok (.istore 6, 2) := by decide +kernel
theorem d_Md_shift_124 : decode b_Md_shift 124 = .ok (.iload 6, 2) := by decide +kernel
theorem d_Md_shift_126 : decode b_Md_shift 126 = .ok (.ifCond .lt 38, 3) := by decide +kernel
theorem d_Md_shift_129 : decode b_Md_shift 129 = .ok (.aload_n 0, 1) := by decide +kernel
theorem d_Md_shift_130 : decode b_Md_shift 130 = .ok (.getfield 109, 3) := by decide +kernel
theorem d_Md_shift_133 : decode b_Md_shift 133 = .ok (.bipush 60, 2) := by decide +kernel
theorem d_Md_shift_135 : decode b_Md_shift 135 = .ok (.iload_n 3, 1) := by decide +kernel
theorem d_Md_shift_136 : decode b_Md_shift 136 = .ok (.imul, 1) := by decide +kernel
theorem d_Md_shift_137 : decode b_Md_shift 137 = .ok (.iload 4, 2) := by decide +kernel
theorem d_Md_shift_139 : decode b_Md_shift 139 = .ok (.iadd, 1) := by decide +kernel
theorem d_Md_shift_140 : decode b_Md_shift 140 = .ok (.iload 6, 2) := by decide +kernel
theorem d_Md_shift_142 : decode b_Md_shift 142 = .ok (.iadd, 1) := by decide +kernel
theorem d_Md_shift_143 : decode b_Md_shift 143 = .ok (.aload_n 0, 1) := by decide +kernel
theorem d_Md_shift_144 : decode b_Md_shift 144 = .ok (.getfield 109, 3) := by decide +kernel
theorem d_Md_shift_147 : decode b_Md_shift 147 = .ok (.bipush 60, 2) := by decide +kernel
theorem d_Md_shift_149 : decode b_Md_shift 149 = .ok (.iload_n 1, 1) := by decide +kernel
theorem d_Md_shift_150 : decode b_Md_shift 150 = .ok (.imul, 1) := by decide +kernel
theorem d_Md_shift_151 : decode b_Md_shift 151 = .ok (.iload_n 2, 1) := by decide +kernel
theorem d_Md_shift_152 : decode b_Md_shift 152 = .ok (.iadd, 1) := by decide +kernel
theorem d_Md_shift_153 : decode b_Md_shift 153 = .ok (.iload 6, 2) := by decide +kernel
theorem d_Md_shift_155 : decode b_Md_shift 155 = .ok (.iadd, 1) := by decide +kernel
theorem d_Md_shift_156 : decode b_Md_shift 156 = .ok (.laload, 1) := by decide +kernel
theorem d_Md_shift_157 : decode b_Md_shift 157 = .ok (.lastore, 1) := by decide +kernel
theorem d_Md_shift_158 : decode b_Md_shift 158 = .ok (.iinc 6 (-1), 3) := by decide +kernel
theorem d_Md_shift_161 : decode b_Md_shift 161 = .ok (.goto (-37), 3) := by decide +kernel
theorem d_Md_shift_164 : decode b_Md_shift 164 = .ok (.goto 48, 3) := by decide +kernel
theorem d_Md_shift_167 : decode b_Md_shift 167 = .ok (.iconst 0, 1) := by decide +kernel
theorem d_Md_shift_168 : decode b_Md_shift 168 = .ok (.istore 6, 2) := by decide +kernel
theorem d_Md_shift_170 : decode b_Md_shift 170 = .ok (.iload 6, 2) := by decide +kernel
theorem d_Md_shift_172 : decode b_Md_shift 172 = .ok (.iload 5, 2) := by decide +kernel
theorem d_Md_shift_174 : decode b_Md_shift 174 = .ok (.if_icmp .ge 38, 3) := by decide +kernel
theorem d_Md_shift_177 : decode b_Md_shift 177 = .ok (.aload_n 0, 1) := by decide +kernel
theorem d_Md_shift_178 : decode b_Md_shift 178 = .ok (.getfield 109, 3) := by decide +kernel
theorem d_Md_shift_181 : decode b_Md_shift 181 = .ok (.bipush 60, 2) := by decide +kernel
theorem d_Md_shift_183 : decode b_Md_shift 183 = .ok (.iload_n 3, 1) := by decide +kernel
theorem d_Md_shift_184 : decode b_Md_shift 184 = .ok (.imul, 1) := by decide +kernel
theorem d_Md_shift_185 : decode b_Md_shift 185 = .ok (.iload 4, 2) := by decide +kernel
theorem d_Md_shift_187 : decode b_Md_shift 187 = .ok (.iadd, 1) := by decide +kernel
theorem d_Md_shift_188 : decode b_Md_shift 188 = .ok (.iload 6, 2) := by decide +kernel
theorem d_Md_shift_190 : decode b_Md_shift 190 = .ok (.iadd, 1) := by decide +kernel
theorem d_Md_shift_191 : decode b_Md_shift 191 = .ok (.aload_n 0, 1) := by decide +kernel
theorem d_Md_shift_192 : decode b_Md_shift 192 = .ok (.getfield 109, 3) := by decide +kernel
theorem d_Md_shift_195 : decode b_Md_shift 195 = .ok (.bipush 60, 2) := by decide +kernel
theorem d_Md_shift_197 : decode b_Md_shift 197 = .ok (.iload_n 1, 1) := by decide +kernel
theorem d_Md_shift_198 : decode b_Md_shift 198 = .ok (.imul, 1) := by decide +kernel
theorem d_Md_shift_199 : decode b_Md_shift 199 = .ok (.iload_n 2, 1) := by decide +kernel
theorem d_Md_shift_200 : decode b_Md_shift 200 = .ok (.iadd, 1) := by decide +kernel
theorem d_Md_shift_201 : decode b_Md_shift 201 = .ok (.iload 6, 2) := by decide +kernel
theorem d_Md_shift_203 : decode b_Md_shift 203 = .ok (.iadd, 1) := by decide +kernel
theorem d_Md_shift_204 : decode b_Md_shift 204 = .ok (.laload, 1) := by decide +kernel
theorem d_Md_shift_205 : decode b_Md_shift 205 = .ok (.lastore, 1) := by decide +kernel
theorem d_Md_shift_206 : decode b_Md_shift 206 = .ok (.iinc 6 1, 3) := by decide +kernel
theorem d_Md_shift_209 : decode b_Md_shift 209 = .ok (.goto (-39), 3) := by decide +kernel
theorem d_Md_shift_212 : decode b_Md_shift 212 = .ok (.iload 5, 2) := by decide +kernel
theorem d_Md_shift_214 : decode b_Md_shift 214 = .ok (.ireturn, 1) := by decide +kernel
theorem d_jM_floorMod_0 : decode b_jM_floorMod 0 = .ok (.iload_n 0, 1) := by decide +kernel
theorem d_jM_floorMod_1 : decode b_jM_floorMod 1 = .ok (.iload_n 1, 1) := by decide +kernel
theorem d_jM_floorMod_2 : decode b_jM_floorMod 2 = .ok (.irem, 1) := by decide +kernel
theorem d_jM_floorMod_3 : decode b_jM_floorMod 3 = .ok (.istore_n 2, 1) := by decide +kernel
theorem d_jM_floorMod_4 : decode b_jM_floorMod 4 = .ok (.iload_n 0, 1) := by decide +kernel
theorem d_jM_floorMod_5 : decode b_jM_floorMod 5 = .ok (.iload_n 1, 1) := by decide +kernel
theorem d_jM_floorMod_6 : decode b_jM_floorMod 6 = .ok (.ixor, 1) := by decide +kernel
theorem d_jM_floorMod_7 : decode b_jM_floorMod 7 = .ok (.ifCond .ge 11, 3) := by decide +kernel
theorem d_jM_floorMod_10 : decode b_jM_floorMod 10 = .ok (.iload_n 2, 1) := by decide +kernel
theorem d_jM_floorMod_11 : decode b_jM_floorMod 11 = .ok (.ifCond .eq 7, 3) := by decide +kernel
theorem d_jM_floorMod_14 : decode b_jM_floorMod 14 = .ok (.iload_n 2, 1) := by decide +kernel
theorem d_jM_floorMod_15 : decode b_jM_floorMod 15 = .ok (.iload_n 1, 1) := by decide +kernel
theorem d_jM_floorMod_16 : decode b_jM_floorMod 16 = .ok (.iadd, 1) := by decide +kernel
theorem d_jM_floorMod_17 : decode b_jM_floorMod 17 = .ok (.ireturn, 1) := by decide +kernel
theorem d_jM_floorMod_18 : decode b_jM_floorMod 18 = .ok (.iload_n 2, 1) := by decide +kernel
theorem d_jM_floorMod_19 : decode b_jM_floorMod 19 = .ok (.ireturn, 1) := by decide +kernel
theorem d_jM_max_0 : decode b_jM_max 0 = .ok (.iload_n 0, 1) := by decide +kernel
theorem d_jM_max_1 : decode b_jM_max 1 = .ok (.iload_n 1, 1) := by decide +kernel
theorem d_jM_max_2 : decode b_jM_max 2 = .ok (.if_icmp .lt 7, 3) := by decide +kernel
theorem d_jM_max_5 : decode b_jM_max 5 = .ok (.iload_n 0, 1) := by decide +kernel
theorem d_jM_max_6 : decode b_jM_max 6 = .ok (.goto 4, 3) := by decide +kernel
theorem d_jM_max_9 : decode b_jM_max 9 = .ok (.iload_n 1, 1) := by decide +kernel
theorem d_jM_max_10 : decode b_jM_max 10 = .ok (.ireturn, 1) := by decide +kernel
theorem d_jM_maxL_0 : decode b_jM_maxL 0 = .ok (.lload_n 0, 1) := by decide +kernel
theorem d_jM_maxL_1 : decode b_jM_maxL 1 = .ok (.lload_n 2, 1) := by decide +kernel
theorem d_jM_maxL_2 : decode b_jM_maxL 2 = .ok (.lcmp, 1) := by decide +kernel
theorem d_jM_maxL_3 : decode b_jM_maxL 3 = .ok (.ifCond .lt 7, 3) := by decide +kernel
theorem d_jM_maxL_6 : decode b_jM_maxL 6 = .ok (.lload_n 0, 1) := by decide +kernel
theorem d_jM_maxL_7 : decode b_jM_maxL 7 = .ok (.goto 4, 3) := by decide +kernel
theorem d_jM_maxL_10 : decode b_jM_maxL 10 = .ok (.lload_n 2, 1) := by decide +kernel
theorem d_jM_maxL_11 : decode b_jM_maxL 11 = .ok (.lreturn, 1) := by decide +kernel
theorem d_jM_min_0 : decode b_jM_min 0 = .ok (.iload_n 0, 1) := by decide +kernel
theorem d_jM_min_1 : decode b_jM_min 1 = .ok (.iload_n 1, 1) := by decide +kernel
theorem d_jM_min_2 : decode b_jM_min 2 = .ok (.if_icmp .gt 7, 3) := by decide +kernel
theorem d_jM_min_5 : decode b_jM_min 5 = .ok (.iload_n 0, 1) := by decide +kernel
theorem d_jM_min_6 : decode b_jM_min 6 = .ok (.goto 4, 3) := by decide +kernel
theorem d_jM_min_9 : decode b_jM_min 9 = .ok (.iload_n 1, 1) := by decide +kernel
theorem d_jM_min_10 : decode b_jM_min 10 = .ok (.ireturn, 1) := by decide +kernel
theorem d_jS_length_0 : decode b_jS_length 0 = .ok (.aload_n 0, 1) := by decide +kernel
theorem d_jS_length_1 : decode b_jS_length 1 = .ok (.getfield 9, 3) := by decide +kernel
theorem d_jS_length_4 : decode b_jS_length 4 = .ok (.arraylength, 1) := by decide +kernel
theorem d_jS_length_5 : decode b_jS_length 5 = .ok (.aload_n 0, 1) := by decide +kernel
theorem d_jS_length_6 : decode b_jS_length 6 = .ok (.invokevirtual 335, 3) := by decide +kernel
theorem d_jS_length_9 : decode b_jS_length 9 = .ok (.ishr, 1) := by decide +kernel
theorem d_jS_length_10 : decode b_jS_length 10 = .ok (.ireturn, 1) := by decide +kernel
theorem d_jS_charAt_0 : decode b_jS_charAt 0 = .ok (.aload_n 0, 1) := by decide +kernel
theorem d_jS_charAt_1 : decode b_jS_charAt 1 = .ok (.invokevirtual 492, 3) := by decide +kernel
theorem d_jS_charAt_4 : decode b_jS_charAt 4 = .ok (.ifCond .eq 12, 3) := by decide +kernel
theorem d_jS_charAt_7 : decode b_jS_charAt 7 = .ok (.aload_n 0, 1) := by decide +kernel
theorem d_jS_charAt_8 : decode b_jS_charAt 8 = .ok (.getfield 9, 3) := by decide +kernel
theorem d_jS_charAt_11 : decode b_jS_charAt 11 = .ok (.iload_n 1, 1) := by decide +kernel
theorem d_jS_charAt_12 : decode b_jS_charAt 12 = .ok (.invokestatic 495, 3) := by decide +kernel
theorem d_jS_charAt_15 : decode b_jS_charAt 15 = .ok (.ireturn, 1) := by decide +kernel
theorem d_jS_charAt_16 : decode b_jS_charAt 16 = .ok (.aload_n 0, 1) := by decide +kernel
theorem d_jS_charAt_17 : decode b_jS_charAt 17 = .ok (.getfield 9, 3) := by decide +kernel
theorem d_jS_charAt_20 : decode b_jS_charAt 20 = .ok (.iload_n 1, 1) := by decide +kernel
theorem d_jS_charAt_21 : decode b_jS_charAt 21 = .ok (.invokestatic 498, 3) := by decide +kernel
theorem d_jS_charAt_24 : decode b_jS_charAt 24 = .ok (.ireturn, 1) := by decide +kernel
theorem d_jS_indexOf1_0 : decode b_jS_indexOf1 0 = .ok (.aload_n 0, 1) := by decide +kernel
theorem d_jS_indexOf1_1 : decode b_jS_indexOf1 1 = .ok (.iload_n 1, 1) := by decide +kernel
theorem d_jS_indexOf1_2 : decode b_jS_indexOf1 2 = .ok (.iconst 0, 1) := by decide +kernel
theorem d_jS_indexOf1_3 : decode b_jS_indexOf1 3 = .ok (.invokevirtual 633, 3) := by decide +kernel
theorem d_jS_indexOf1_6 : decode b_jS_indexOf1 6 = .ok (.ireturn, 1) := by decide +kernel
theorem d_jS_indexOf2_0 : decode b_jS_indexOf2 0 = .ok (.aload_n 0, 1) := by decide +kernel
theorem d_jS_indexOf2_1 : decode b_jS_indexOf2 1 = .ok (.invokevirtual 492, 3) := by decide +kernel
theorem d_jS_indexOf2_4 : decode b_jS_indexOf2 4 = .ok (.ifCond .eq 19, 3) := by decide +kernel
theorem d_jS_indexOf2_7 : decode b_jS_indexOf2 7 = .ok (.aload_n 0, 1) := by decide +kernel
theorem d_jS_indexOf2_8 : decode b_jS_indexOf2 8 = .ok (.getfield 9, 3) := by decide +kernel
theorem d_jS_indexOf2_11 : decode b_jS_indexOf2 11 = .ok (.iload_n 1, 1) := by decide +kernel
theorem d_jS_indexOf2_12 : decode b_jS_indexOf2 12 = .ok (.iload_n 2, 1) := by decide +kernel
theorem d_jS_indexOf2_13 : decode b_jS_indexOf2 13 = .ok (.aload_n 0, 1) := by decide +kernel
theorem d_jS_indexOf2_14 : decode b_jS_indexOf2 14 = .ok (.invokevirtual 505, 3) := by decide +kernel
theorem d_jS_indexOf2_17 : decode b_jS_indexOf2 17 = .ok (.invokestatic 637, 3) := by decide +kernel
theorem d_jS_indexOf2_20 : decode b_jS_indexOf2 20 = .ok (.goto 16, 3) := by decide +kernel
theorem d_jS_indexOf2_23 : decode b_jS_indexOf2 23 = .ok (.aload_n 0, 1) := by decide +kernel
theorem d_jS_indexOf2_24 : decode b_jS_indexOf2 24 = .ok (.getfield 9, 3) := by decide +kernel
theorem d_jS_indexOf2_27 : decode b_jS_indexOf2 27 = .ok (.iload_n 1, 1) := by decide +kernel
theorem d_jS_indexOf2_28 : decode b_jS_indexOf2 28 = .ok (.iload_n 2, 1) := by decide +kernel
theorem d_jS_indexOf2_29 : decode b_jS_indexOf2 29 = .ok (.aload_n 0, 1) := by decide +kernel
theorem d_jS_indexOf2_30 : decode b_jS_indexOf2 30 = .ok (.invokevirtual 505, 3) := by decide +kernel
theorem d_jS_indexOf2_33 : decode b_jS_indexOf2 33 = .ok (.invokestatic 640, 3) := by decide +kernel
theorem d_jS_indexOf2_36 : decode b_jS_indexOf2 36 = .ok (.ireturn, 1) := by decide +kernel
theorem d_jS_coder_0 : decode b_jS_coder 0 = .ok (.getstatic 38, 3) := by decide +kernel
theorem d_jS_coder_3 : decode b_jS_coder 3 = .ok (.ifCond .eq 10, 3) := by decide +kernel
theorem d_jS_coder_6 : decode b_jS_coder 6 = .ok (.aload_n 0, 1) := by decide +kernel
theorem d_jS_coder_7 : decode b_jS_coder 7 = .ok (.getfield 15, 3) := by decide +kernel
theorem d_jS_coder_10 : decode b_jS_coder 10 = .ok (.goto 4, 3) := by decide +kernel
theorem d_jS_coder_13 : decode b_jS_coder 13 = .ok (.iconst 1, 1) := by decide +kernel
theorem d_jS_coder_14 : decode b_jS_coder 14 = .ok (.ireturn, 1) := by decide +kernel
theorem d_jS_isLatin1_0 : decode b_jS_isLatin1 0 = .ok (.getstatic 38, 3) := by decide +kernel
theorem d_jS_isLatin1_3 : decode b_jS_isLatin1 3 = .ok (.ifCond .eq 14, 3) := by decide +kernel
theorem d_jS_isLatin1_6 : decode b_jS_isLatin1 6 = .ok (.aload_n 0, 1) := by decide +kernel
theorem d_jS_isLatin1_7 : decode b_jS_isLatin1 7 = .ok (.getfield 15, 3) := by decide +kernel
theorem d_jS_isLatin1_10 : decode b_jS_isLatin1 10 = .ok (.ifCond .ne 7, 3) := by decide +kernel
theorem d_jS_isLatin1_13 : decode b_jS_isLatin1 13 = .ok (.iconst 1, 1) := by decide +kernel
theorem d_jS_isLatin1_14 : decode b_jS_isLatin1 14 = .ok (.goto 4, 3) := by decide +kernel
theorem d_jS_isLatin1_17 : decode b_jS_isLatin1 17 = .ok (.iconst 0, 1) := by decide +kernel
theorem d_jS_isLatin1_18 : decode b_jS_isLatin1 18 = .ok (.ireturn, 1) := by decide +kernel
theorem d_jS_checkIndex_0 : decode b_jS_checkIndex 0 = .ok (.iload_n 0, 1) := by decide +kernel
theorem d_jS_checkIndex_1 : decode b_jS_checkIndex 1 = .ok (.iload_n 1, 1) := by decide +kernel
theorem d_jS_checkIndex_2 : decode b_jS_checkIndex 2 = .ok (.getstatic 1053, 3) := by decide +kernel
theorem d_jS_checkIndex_5 : decode b_jS_checkIndex 5 = .ok (.invokestatic 1059, 3) := by decide +kernel
theorem d_jS_checkIndex_8 : decode b_jS_checkIndex 8 = .ok (.pop, 1) := by decide +kernel
theorem d_jS_checkIndex_9 : decode b_jS_checkIndex 9 = .ok (.return_, 1) := by decide +kernel
theorem d_jL_charAt_0 : decode b_jL_charAt 0 = .ok (.iload_n 1, 1) := by decide +kernel
theorem d_jL_charAt_1 : decode b_jL_charAt 1 = .ok (.aload_n 0, 1) := by decide +kernel
theorem d_jL_charAt_2 : decode b_jL_charAt 2 = .ok (.arraylength, 1) := by decide +kernel
theorem d_jL_charAt_3 : decode b_jL_charAt 3 = .ok (.invokestatic 9, 3) := by decide +kernel
theorem d_jL_charAt_6 : decode b_jL_charAt 6 = .ok (.aload_n 0, 1) := by decide +kernel
theorem d_jL_charAt_7 : decode b_jL_charAt 7 = .ok (.iload_n 1, 1) := by decide +kernel
theorem d_jL_charAt_8 : decode b_jL_charAt 8 = .ok (.baload, 1) := by decide +kernel
theorem d_jL_charAt_9 : decode b_jL_charAt 9 = .ok (.sipush 255, 3) := by decide +kernel
theorem d_jL_charAt_12 : decode b_jL_charAt 12 = .ok (.iand, 1) := by decide +kernel
theorem d_jL_charAt_13 : decode b_jL_charAt 13 = .ok (.i2c, 1) := by decide +kernel
theorem d_jL_charAt_14 : decode b_jL_charAt 14 = .ok (.ireturn, 1) := by decide +kernel
theorem d_jL_canEncode_0 : decode b_jL_canEncode 0 = .ok (.iload_n 0, 1) := by decide +kernel
theorem d_jL_canEncode_1 : decode b_jL_canEncode 1 = .ok (.ifCond .lt 14, 3) := by decide +kernel
theorem d_jL_canEncode_4 : decode b_jL_canEncode 4 = .ok (.iload_n 0, 1) := by decide +kernel
theorem d_jL_canEncode_5 : decode b_jL_canEncode 5 = .ok (.sipush 255, 3) := by decide +kernel
theorem d_jL_canEncode_8 : decode b_jL_canEncode 8 = .ok (.if_icmp .gt 7, 3) := by decide +kernel
theorem d_jL_canEncode_11 : decode b_jL_canEncode 11 = .ok (.iconst 1, 1) := by decide +kernel
theorem d_jL_canEncode_12 : decode b_jL_canEncode 12 = .ok (.goto 4, 3) := by decide +kernel
theorem d_jL_canEncode_15 : decode b_jL_canEncode 15 = .ok (.iconst 0, 1) := by decide +kernel
theorem d_jL_canEncode_16 : decode b_jL_canEncode 16 = .ok (.ireturn, 1) := by decide +kernel
theorem d_jL_indexOf_0 : decode b_jL_indexOf 0 = .ok (.iload_n 1, 1) := by decide +kernel
theorem d_jL_indexOf_1 : decode b_jL_indexOf 1 = .ok (.invokestatic 88, 3) := by decide +kernel
theorem d_jL_indexOf_4 : decode b_jL_indexOf 4 = .ok (.ifCond .ne 5, 3) := by decide +kernel
theorem d_jL_indexOf_7 : decode b_jL_indexOf 7 = .ok (.iconst (-1), 1) := by decide +kernel
theorem d_jL_indexOf_8 : decode b_jL_indexOf 8 = .ok (.ireturn, 1) := by decide +kernel
theorem d_jL_indexOf_9 : decode b_jL_indexOf 9 = .ok (.iload_n 2, 1) := by decide +kernel
theorem d_jL_indexOf_10 : decode b_jL_indexOf 10 = .ok (.iconst 0, 1) := by decide +kernel
theorem d_jL_indexOf_11 : decode b_jL_indexOf 11 = .ok (.invokestatic 92, 3) := by decide +kernel
theorem d_jL_indexOf_14 : decode b_jL_indexOf 14 = .ok (.istore_n 2, 1) := by decide +kernel
theorem d_jL_indexOf_15 : decode b_jL_indexOf 15 = .ok (.iload_n 3, 1) := by decide +kernel
theorem d_jL_indexOf_16 : decode b_jL_indexOf 16 = .ok (.aload_n 0, 1) := by decide +kernel
theorem d_jL_indexOf_17 : decode b_jL_indexOf 17 = .ok (.arraylength, 1) := by decide +kernel
theorem d_jL_indexOf_18 : decode b_jL_indexOf 18 = .ok (.invokestatic 38, 3) := by decide +kernel
theorem d_jL_indexOf_21 : decode b_jL_indexOf 21 = .ok (.istore_n 3, 1) := by decide +kernel
theorem d_jL_indexOf_22 : decode b_jL_indexOf 22 = .ok (.iload_n 2, 1) := by decide +kernel
theorem d_jL_indexOf_23 : decode b_jL_indexOf 23 = .ok (.iload_n 3, 1) := by decide +kernel
theorem d_jL_indexOf_24 : decode b_jL_indexOf 24 = .ok (.if_icmp .lt 5, 3) := by decide +kernel
theorem d_jL_indexOf_27 : decode b_jL_indexOf 27 = .ok (.iconst (-1), 1) := by decide +kernel
theorem d_jL_indexOf_28 : decode b_jL_indexOf 28 = .ok (.ireturn, 1) := by decide +kernel
theorem d_jL_indexOf_29 : decode b_jL_indexOf 29 = .ok (.aload_n 0, 1) := by decide +kernel
theorem d_jL_indexOf_30 : decode b_jL_indexOf 30 = .ok (.iload_n 1, 1) := by decide +kernel
theorem d_jL_indexOf_31 : decode b_jL_indexOf 31 = .ok (.iload_n 2, 1) := by decide +kernel
theorem d_jL_indexOf_32 : decode b_jL_indexOf 32 = .ok (.iload_n 3, 1) := by decide +kernel
theorem d_jL_indexOf_33 : decode b_jL_indexOf 33 = .ok (.invokestatic 95, 3) := by decide +kernel
theorem d_jL_indexOf_36 : decode b_jL_indexOf 36 = .ok (.ireturn, 1) := by decide +kernel
theorem d_jL_indexOfChar_0 : decode b_jL_indexOfChar 0 = .ok (.iload_n 1, 1) := by decide +kernel
theorem d_jL_indexOfChar_1 : decode b_jL_indexOfChar 1 = .ok (.i2b, 1) := by decide +kernel
theorem d_jL_indexOfChar_2 : decode b_jL_indexOfChar 2 = .ok (.istore 4, 2) := by decide +kernel
theorem d_jL_indexOfChar_4 : decode b_jL_indexOfChar 4 = .ok (.iload_n 2, 1) := by decide +kernel
theorem d_jL_indexOfChar_5 : decode b_jL_indexOfChar 5 = .ok (.istore 5, 2) := by decide +kernel
theorem d_jL_indexOfChar_7 : decode b_jL_indexOfChar 7 = .ok (.iload 5, 2) := by decide +kernel
theorem d_jL_indexOfChar_9 : decode b_jL_indexOfChar 9 = .ok (.iload_n 3, 1) := by decide +kernel
theorem d_jL_indexOfChar_10 : decode b_jL_indexOfChar 10 = .ok (.if_icmp .ge 21, 3) := by decide +kernel
theorem d_jL_indexOfChar_13 : decode b_jL_indexOfChar 13 = .ok (.aload_n 0, 1) := by decide +kernel
theorem d_jL_indexOfChar_14 : decode b_jL_indexOfChar 14 = .ok (.iload 5, 2) := by decide +kernel
theorem d_jL_indexOfChar_16 : decode b_jL_indexOfChar 16 = .ok (.baload, 1) := by decide +kernel
theorem d_jL_indexOfChar_17 : decode b_jL_indexOfChar 17 = .ok (.iload 4, 2) := by decide +kernel
theorem d_jL_indexOfChar_19 : decode b_jL_indexOfChar 19 = .ok (.if_icmp .ne 6, 3) := by decide +kernel
theorem d_jL_indexOfChar_22 : decode b_jL_indexOfChar 22 = .ok (.iload 5, 2) := by decide +kernel
theorem d_jL_indexOfChar_24 : decode b_jL_indexOfChar 24 = .ok (.ireturn, 1) := by decide +kernel
theorem d_jL_indexOfChar_25 : decode b_jL_indexOfChar 25 = .ok (.iinc 5 1, 3) := by decide +kernel
theorem d_jL_indexOfChar_28 : decode b_jL_indexOfChar 28 = .ok (.goto (-21), 3) := by decide +kernel
theorem d_jL_indexOfChar_31 : decode b_jL_indexOfChar 31 = .ok (.iconst (-1), 1) := by decide +kernel
theorem d_jL_indexOfChar_32 : decode b_jL_indexOfChar 32 = .ok (.ireturn, 1) := by decide +kernel
theorem d_jP_checkIndex_0 : decode b_jP_checkIndex 0 = .ok (.iload_n 0, 1) := by decide +kernel
theorem d_jP_checkIndex_1 : decode b_jP_checkIndex 1 = .ok (.ifCond .lt 8, 3) := by decide +kernel
theorem d_jP_checkIndex_4 : decode b_jP_checkIndex 4 = .ok (.iload_n 0, 1) := by decide +kernel
theorem d_jP_checkIndex_5 : decode b_jP_checkIndex 5 = .ok (.iload_n 1, 1) := by decide +kernel
theorem d_jP_checkIndex_6 : decode b_jP_checkIndex 6 = .ok (.if_icmp .lt 10, 3) := by decide +kernel
theorem d_jP_checkIndex_9 : decode b_jP_checkIndex 9 = .ok (.aload_n 2, 1) := by decide +kernel
theorem d_jP_checkIndex_10 : decode b_jP_checkIndex 10 = .ok (.iload_n 0, 1) := by decide +kernel
theorem d_jP_checkIndex_11 : decode b_jP_checkIndex 11 = .ok (.iload_n 1, 1) := by decide +kernel
theorem d_jP_checkIndex_12 : decode b_jP_checkIndex 12 = .ok (.invokestatic 95, 3) := by decide +kernel
theorem d_jP_checkIndex_15 : decode b_jP_checkIndex 15 = .ok (.athrow, 1) := by decide +kernel
theorem d_jP_checkIndex_16 : decode b_jP_checkIndex 16 = .ok (.iload_n 0, 1) := by decide +kernel
theorem d_jP_checkIndex_17 : decode b_jP_checkIndex 17 = .ok (.ireturn, 1) := by decide +kernel
