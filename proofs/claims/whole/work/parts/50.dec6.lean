theorem d_Law_law_0 : decode b_Law_law 0 = .ok (.new 7, 3) := by decide +kernel
theorem d_Law_law_3 : decode b_Law_law 3 = .ok (.dup, 1) := by decide +kernel
theorem d_Law_law_4 : decode b_Law_law 4 = .ok (.invokespecial 9, 3) := by decide +kernel
theorem d_Law_law_7 : decode b_Law_law 7 = .ok (.astore_n 1, 1) := by decide +kernel
theorem d_Law_law_8 : decode b_Law_law 8 = .ok (.new 10, 3) := by decide +kernel
theorem d_Law_law_11 : decode b_Law_law 11 = .ok (.dup, 1) := by decide +kernel
theorem d_Law_law_12 : decode b_Law_law 12 = .ok (.invokespecial 12, 3) := by decide +kernel
theorem d_Law_law_15 : decode b_Law_law 15 = .ok (.astore_n 2, 1) := by decide +kernel
theorem d_Law_law_16 : decode b_Law_law 16 = .ok (.iconst 0, 1) := by decide +kernel
theorem d_Law_law_17 : decode b_Law_law 17 = .ok (.istore_n 3, 1) := by decide +kernel
theorem d_Law_law_18 : decode b_Law_law 18 = .ok (.iload_n 3, 1) := by decide +kernel
theorem d_Law_law_19 : decode b_Law_law 19 = .ok (.aload_n 0, 1) := by decide +kernel
theorem d_Law_law_20 : decode b_Law_law 20 = .ok (.arraylength, 1) := by decide +kernel
theorem d_Law_law_21 : decode b_Law_law 21 = .ok (.iconst 4, 1) := by decide +kernel
theorem d_Law_law_22 : decode b_Law_law 22 = .ok (.isub, 1) := by decide +kernel
theorem d_Law_law_23 : decode b_Law_law 23 = .ok (.if_icmp .gt 747, 3) := by decide +kernel
theorem d_Law_law_26 : decode b_Law_law 26 = .ok (.aload_n 0, 1) := by decide +kernel
theorem d_Law_law_27 : decode b_Law_law 27 = .ok (.iload_n 3, 1) := by decide +kernel
theorem d_Law_law_28 : decode b_Law_law 28 = .ok (.iaload, 1) := by decide +kernel
theorem d_Law_law_29 : decode b_Law_law 29 = .ok (.bipush 31, 2) := by decide +kernel
theorem d_Law_law_31 : decode b_Law_law 31 = .ok (.iand, 1) := by decide +kernel
theorem d_Law_law_120 : decode b_Law_law 120 = .ok (.aload_n 1, 1) := by decide +kernel
theorem d_Law_law_121 : decode b_Law_law 121 = .ok (.aload_n 0, 1) := by decide +kernel
theorem d_Law_law_122 : decode b_Law_law 122 = .ok (.iload_n 3, 1) := by decide +kernel
theorem d_Law_law_123 : decode b_Law_law 123 = .ok (.iconst 1, 1) := by decide +kernel
theorem d_Law_law_124 : decode b_Law_law 124 = .ok (.iadd, 1) := by decide +kernel
theorem d_Law_law_125 : decode b_Law_law 125 = .ok (.iaload, 1) := by decide +kernel
theorem d_Law_law_126 : decode b_Law_law 126 = .ok (.aload_n 0, 1) := by decide +kernel
theorem d_Law_law_127 : decode b_Law_law 127 = .ok (.iload_n 3, 1) := by decide +kernel
theorem d_Law_law_128 : decode b_Law_law 128 = .ok (.iconst 2, 1) := by decide +kernel
theorem d_Law_law_129 : decode b_Law_law 129 = .ok (.iadd, 1) := by decide +kernel
theorem d_Law_law_130 : decode b_Law_law 130 = .ok (.iaload, 1) := by decide +kernel
theorem d_Law_law_131 : decode b_Law_law 131 = .ok (.invokevirtual 13, 3) := by decide +kernel
theorem d_Law_law_134 : decode b_Law_law 134 = .ok (.aload_n 2, 1) := by decide +kernel
theorem d_Law_law_135 : decode b_Law_law 135 = .ok (.aload_n 0, 1) := by decide +kernel
theorem d_Law_law_136 : decode b_Law_law 136 = .ok (.iload_n 3, 1) := by decide +kernel
theorem d_Law_law_137 : decode b_Law_law 137 = .ok (.iconst 1, 1) := by decide +kernel
theorem d_Law_law_138 : decode b_Law_law 138 = .ok (.iadd, 1) := by decide +kernel
theorem d_Law_law_139 : decode b_Law_law 139 = .ok (.iaload, 1) := by decide +kernel
theorem d_Law_law_140 : decode b_Law_law 140 = .ok (.aload_n 0, 1) := by decide +kernel
theorem d_Law_law_141 : decode b_Law_law 141 = .ok (.iload_n 3, 1) := by decide +kernel
theorem d_Law_law_142 : decode b_Law_law 142 = .ok (.iconst 2, 1) := by decide +kernel
theorem d_Law_law_143 : decode b_Law_law 143 = .ok (.iadd, 1) := by decide +kernel
theorem d_Law_law_144 : decode b_Law_law 144 = .ok (.iaload, 1) := by decide +kernel
theorem d_Law_law_145 : decode b_Law_law 145 = .ok (.invokevirtual 17, 3) := by decide +kernel
theorem d_Law_law_148 : decode b_Law_law 148 = .ok (.if_icmp .eq 616, 3) := by decide +kernel
theorem d_Law_law_151 : decode b_Law_law 151 = .ok (.iconst 0, 1) := by decide +kernel
theorem d_Law_law_152 : decode b_Law_law 152 = .ok (.ireturn, 1) := by decide +kernel
theorem d_Law_law_153 : decode b_Law_law 153 = .ok (.aload_n 1, 1) := by decide +kernel
theorem d_Law_law_154 : decode b_Law_law 154 = .ok (.aload_n 0, 1) := by decide +kernel
theorem d_Law_law_155 : decode b_Law_law 155 = .ok (.iload_n 3, 1) := by decide +kernel
theorem d_Law_law_156 : decode b_Law_law 156 = .ok (.iconst 1, 1) := by decide +kernel
theorem d_Law_law_157 : decode b_Law_law 157 = .ok (.iadd, 1) := by decide +kernel
theorem d_Law_law_158 : decode b_Law_law 158 = .ok (.iaload, 1) := by decide +kernel
theorem d_Law_law_159 : decode b_Law_law 159 = .ok (.aload_n 0, 1) := by decide +kernel
theorem d_Law_law_160 : decode b_Law_law 160 = .ok (.iload_n 3, 1) := by decide +kernel
theorem d_Law_law_161 : decode b_Law_law 161 = .ok (.iconst 2, 1) := by decide +kernel
theorem d_Law_law_162 : decode b_Law_law 162 = .ok (.iadd, 1) := by decide +kernel
theorem d_Law_law_163 : decode b_Law_law 163 = .ok (.iaload, 1) := by decide +kernel
theorem d_Law_law_164 : decode b_Law_law 164 = .ok (.aload_n 0, 1) := by decide +kernel
theorem d_Law_law_165 : decode b_Law_law 165 = .ok (.iload_n 3, 1) := by decide +kernel
theorem d_Law_law_166 : decode b_Law_law 166 = .ok (.iconst 3, 1) := by decide +kernel
theorem d_Law_law_167 : decode b_Law_law 167 = .ok (.iadd, 1) := by decide +kernel
theorem d_Law_law_168 : decode b_Law_law 168 = .ok (.iaload, 1) := by decide +kernel
theorem d_Law_law_169 : decode b_Law_law 169 = .ok (.invokevirtual 18, 3) := by decide +kernel
theorem d_Law_law_172 : decode b_Law_law 172 = .ok (.aload_n 2, 1) := by decide +kernel
theorem d_Law_law_173 : decode b_Law_law 173 = .ok (.aload_n 0, 1) := by decide +kernel
theorem d_Law_law_174 : decode b_Law_law 174 = .ok (.iload_n 3, 1) := by decide +kernel
theorem d_Law_law_175 : decode b_Law_law 175 = .ok (.iconst 1, 1) := by decide +kernel
theorem d_Law_law_176 : decode b_Law_law 176 = .ok (.iadd, 1) := by decide +kernel
theorem d_Law_law_177 : decode b_Law_law 177 = .ok (.iaload, 1) := by decide +kernel
theorem d_Law_law_178 : decode b_Law_law 178 = .ok (.aload_n 0, 1) := by decide +kernel
theorem d_Law_law_179 : decode b_Law_law 179 = .ok (.iload_n 3, 1) := by decide +kernel
theorem d_Law_law_180 : decode b_Law_law 180 = .ok (.iconst 2, 1) := by decide +kernel
theorem d_Law_law_181 : decode b_Law_law 181 = .ok (.iadd, 1) := by decide +kernel
theorem d_Law_law_182 : decode b_Law_law 182 = .ok (.iaload, 1) := by decide +kernel
theorem d_Law_law_183 : decode b_Law_law 183 = .ok (.aload_n 0, 1) := by decide +kernel
theorem d_Law_law_184 : decode b_Law_law 184 = .ok (.iload_n 3, 1) := by decide +kernel
theorem d_Law_law_185 : decode b_Law_law 185 = .ok (.iconst 3, 1) := by decide +kernel
theorem d_Law_law_186 : decode b_Law_law 186 = .ok (.iadd, 1) := by decide +kernel
theorem d_Law_law_187 : decode b_Law_law 187 = .ok (.iaload, 1) := by decide +kernel
theorem d_Law_law_188 : decode b_Law_law 188 = .ok (.invokevirtual 22, 3) := by decide +kernel
theorem d_Law_law_191 : decode b_Law_law 191 = .ok (.if_icmp .eq 573, 3) := by decide +kernel
theorem d_Law_law_194 : decode b_Law_law 194 = .ok (.iconst 0, 1) := by decide +kernel
theorem d_Law_law_195 : decode b_Law_law 195 = .ok (.ireturn, 1) := by decide +kernel
theorem d_Law_law_196 : decode b_Law_law 196 = .ok (.aload_n 1, 1) := by decide +kernel
theorem d_Law_law_197 : decode b_Law_law 197 = .ok (.aload_n 0, 1) := by decide +kernel
theorem d_Law_law_198 : decode b_Law_law 198 = .ok (.iload_n 3, 1) := by decide +kernel
theorem d_Law_law_199 : decode b_Law_law 199 = .ok (.iconst 1, 1) := by decide +kernel
theorem d_Law_law_200 : decode b_Law_law 200 = .ok (.iadd, 1) := by decide +kernel
theorem d_Law_law_201 : decode b_Law_law 201 = .ok (.iaload, 1) := by decide +kernel
theorem d_Law_law_202 : decode b_Law_law 202 = .ok (.aload_n 0, 1) := by decide +kernel
theorem d_Law_law_203 : decode b_Law_law 203 = .ok (.iload_n 3, 1) := by decide +kernel
theorem d_Law_law_204 : decode b_Law_law 204 = .ok (.iconst 2, 1) := by decide +kernel
theorem d_Law_law_205 : decode b_Law_law 205 = .ok (.iadd, 1) := by decide +kernel
theorem d_Law_law_206 : decode b_Law_law 206 = .ok (.iaload, 1) := by decide +kernel
theorem d_Law_law_207 : decode b_Law_law 207 = .ok (.invokevirtual 23, 3) := by decide +kernel
theorem d_Law_law_210 : decode b_Law_law 210 = .ok (.aload_n 2, 1) := by decide +kernel
theorem d_Law_law_211 : decode b_Law_law 211 = .ok (.aload_n 0, 1) := by decide +kernel
theorem d_Law_law_212 : decode b_Law_law 212 = .ok (.iload_n 3, 1) := by decide +kernel
theorem d_Law_law_213 : decode b_Law_law 213 = .ok (.iconst 1, 1) := by decide +kernel
theorem d_Law_law_214 : decode b_Law_law 214 = .ok (.iadd, 1) := by decide +kernel
theorem d_Law_law_215 : decode b_Law_law 215 = .ok (.iaload, 1) := by decide +kernel
theorem d_Law_law_216 : decode b_Law_law 216 = .ok (.aload_n 0, 1) := by decide +kernel
theorem d_Law_law_217 : decode b_Law_law 217 = .ok (.iload_n 3, 1) := by decide +kernel
theorem d_Law_law_218 : decode b_Law_law 218 = .ok (.iconst 2, 1) := by decide +kernel
theorem d_Law_law_219 : decode b_Law_law 219 = .ok (.iadd, 1) := by decide +kernel
theorem d_Law_law_220 : decode b_Law_law 220 = .ok (.iaload, 1) := by decide +kernel
theorem d_Law_law_221 : decode b_Law_law 221 = .ok (.invokevirtual 26, 3) := by decide +kernel
theorem d_Law_law_224 : decode b_Law_law 224 = .ok (.if_icmp .eq 540, 3) := by decide +kernel
theorem d_Law_law_227 : decode b_Law_law 227 = .ok (.iconst 0, 1) := by decide +kernel
theorem d_Law_law_228 : decode b_Law_law 228 = .ok (.ireturn, 1) := by decide +kernel
theorem d_Law_law_229 : decode b_Law_law 229 = .ok (.aload_n 1, 1) := by decide +kernel
theorem d_Law_law_230 : decode b_Law_law 230 = .ok (.aload_n 0, 1) := by decide +kernel
theorem d_Law_law_231 : decode b_Law_law 231 = .ok (.iload_n 3, 1) := by decide +kernel
theorem d_Law_law_232 : decode b_Law_law 232 = .ok (.iconst 1, 1) := by decide +kernel
theorem d_Law_law_233 : decode b_Law_law 233 = .ok (.iadd, 1) := by decide +kernel
theorem d_Law_law_234 : decode b_Law_law 234 = .ok (.iaload, 1) := by decide +kernel
theorem d_Law_law_235 : decode b_Law_law 235 = .ok (.aload_n 0, 1) := by decide +kernel
theorem d_Law_law_236 : decode b_Law_law 236 = .ok (.iload_n 3, 1) := by decide +kernel
theorem d_Law_law_237 : decode b_Law_law 237 = .ok (.iconst 2, 1) := by decide +kernel
theorem d_Law_law_238 : decode b_Law_law 238 = .ok (.iadd, 1) := by decide +kernel
theorem d_Law_law_239 : decode b_Law_law 239 = .ok (.iaload, 1) := by decide +kernel
theorem d_Law_law_240 : decode b_Law_law 240 = .ok (.aload_n 0, 1) := by decide +kernel
theorem d_Law_law_241 : decode b_Law_law 241 = .ok (.iload_n 3, 1) := by decide +kernel
theorem d_Law_law_242 : decode b_Law_law 242 = .ok (.iconst 3, 1) := by decide +kernel
theorem d_Law_law_243 : decode b_Law_law 243 = .ok (.iadd, 1) := by decide +kernel
theorem d_Law_law_244 : decode b_Law_law 244 = .ok (.iaload, 1) := by decide +kernel
theorem d_Law_law_245 : decode b_Law_law 245 = .ok (.invokevirtual 27, 3) := by decide +kernel
theorem d_Law_law_248 : decode b_Law_law 248 = .ok (.aload_n 2, 1) := by decide +kernel
theorem d_Law_law_249 : decode b_Law_law 249 = .ok (.aload_n 0, 1) := by decide +kernel
theorem d_Law_law_250 : decode b_Law_law 250 = .ok (.iload_n 3, 1) := by decide +kernel
theorem d_Law_law_251 : decode b_Law_law 251 = .ok (.iconst 1, 1) := by decide +kernel
theorem d_Law_law_252 : decode b_Law_law 252 = .ok (.iadd, 1) := by decide +kernel
theorem d_Law_law_253 : decode b_Law_law 253 = .ok (.iaload, 1) := by decide +kernel
theorem d_Law_law_254 : decode b_Law_law 254 = .ok (.aload_n 0, 1) := by decide +kernel
theorem d_Law_law_255 : decode b_Law_law 255 = .ok (.iload_n 3, 1) := by decide +kernel
theorem d_Law_law_256 : decode b_Law_law 256 = .ok (.iconst 2, 1) := by decide +kernel
theorem d_Law_law_257 : decode b_Law_law 257 = .ok (.iadd, 1) := by decide +kernel
theorem d_Law_law_258 : decode b_Law_law 258 = .ok (.iaload, 1) := by decide +kernel
theorem d_Law_law_259 : decode b_Law_law 259 = .ok (.aload_n 0, 1) := by decide +kernel
theorem d_Law_law_260 : decode b_Law_law 260 = .ok (.iload_n 3, 1) := by decide +kernel
theorem d_Law_law_261 : decode b_Law_law 261 = .ok (.iconst 3, 1) := by decide +kernel
theorem d_Law_law_262 : decode b_Law_law 262 = .ok (.iadd, 1) := by decide +kernel
theorem d_Law_law_263 : decode b_Law_law 263 = .ok (.iaload, 1) := by decide +kernel
theorem d_Law_law_264 : decode b_Law_law 264 = .ok (.invokevirtual 30, 3) := by decide +kernel
theorem d_Law_law_267 : decode b_Law_law 267 = .ok (.if_icmp .eq 497, 3) := by decide +kernel
theorem d_Law_law_270 : decode b_Law_law 270 = .ok (.iconst 0, 1) := by decide +kernel
theorem d_Law_law_271 : decode b_Law_law 271 = .ok (.ireturn, 1) := by decide +kernel
theorem d_Law_law_272 : decode b_Law_law 272 = .ok (.aload_n 1, 1) := by decide +kernel
theorem d_Law_law_273 : decode b_Law_law 273 = .ok (.aload_n 0, 1) := by decide +kernel
theorem d_Law_law_274 : decode b_Law_law 274 = .ok (.iload_n 3, 1) := by decide +kernel
theorem d_Law_law_275 : decode b_Law_law 275 = .ok (.iconst 1, 1) := by decide +kernel
theorem d_Law_law_276 : decode b_Law_law 276 = .ok (.iadd, 1) := by decide +kernel
theorem d_Law_law_277 : decode b_Law_law 277 = .ok (.iaload, 1) := by decide +kernel
theorem d_Law_law_278 : decode b_Law_law 278 = .ok (.aload_n 0, 1) := by decide +kernel
theorem d_Law_law_279 : decode b_Law_law 279 = .ok (.iload_n 3, 1) := by decide +kernel
theorem d_Law_law_280 : decode b_Law_law 280 = .ok (.iconst 2, 1) := by decide +kernel
theorem d_Law_law_281 : decode b_Law_law 281 = .ok (.iadd, 1) := by decide +kernel
theorem d_Law_law_282 : decode b_Law_law 282 = .ok (.iaload, 1) := by decide +kernel
theorem d_Law_law_283 : decode b_Law_law 283 = .ok (.aload_n 0, 1) := by decide +kernel
theorem d_Law_law_284 : decode b_Law_law 284 = .ok (.iload_n 3, 1) := by decide +kernel
theorem d_Law_law_285 : decode b_Law_law 285 = .ok (.iconst 3, 1) := by decide +kernel
theorem d_Law_law_286 : decode b_Law_law 286 = .ok (.iadd, 1) := by decide +kernel
theorem d_Law_law_287 : decode b_Law_law 287 = .ok (.iaload, 1) := by decide +kernel
theorem d_Law_law_288 : decode b_Law_law 288 = .ok (.invokevirtual 31, 3) := by decide +kernel
theorem d_Law_law_291 : decode b_Law_law 291 = .ok (.aload_n 2, 1) := by decide +kernel
theorem d_Law_law_292 : decode b_Law_law 292 = .ok (.aload_n 0, 1) := by decide +kernel
theorem d_Law_law_293 : decode b_Law_law 293 = .ok (.iload_n 3, 1) := by decide +kernel
theorem d_Law_law_294 : decode b_Law_law 294 = .ok (.iconst 1, 1) := by decide +kernel
theorem d_Law_law_295 : decode b_Law_law 295 = .ok (.iadd, 1) := by decide +kernel
theorem d_Law_law_296 : decode b_Law_law 296 = .ok (.iaload, 1) := by decide +kernel
theorem d_Law_law_297 : decode b_Law_law 297 = .ok (.aload_n 0, 1) := by decide +kernel
theorem d_Law_law_298 : decode b_Law_law 298 = .ok (.iload_n 3, 1) := by decide +kernel
theorem d_Law_law_299 : decode b_Law_law 299 = .ok (.iconst 2, 1) := by decide +kernel
theorem d_Law_law_300 : decode b_Law_law 300 = .ok (.iadd, 1) := by decide +kernel
theorem d_Law_law_301 : decode b_Law_law 301 = .ok (.iaload, 1) := by decide +kernel
theorem d_Law_law_302 : decode b_Law_law 302 = .ok (.aload_n 0, 1) := by decide +kernel
theorem d_Law_law_303 : decode b_Law_law 303 = .ok (.iload_n 3, 1) := by decide +kernel
theorem d_Law_law_304 : decode b_Law_law 304 = .ok (.iconst 3, 1) := by decide +kernel
theorem d_Law_law_305 : decode b_Law_law 305 = .ok (.iadd, 1) := by decide +kernel
theorem d_Law_law_306 : decode b_Law_law 306 = .ok (.iaload, 1) := by decide +kernel
theorem d_Law_law_307 : decode b_Law_law 307 = .ok (.invokevirtual 34, 3) := by decide +kernel
theorem d_Law_law_310 : decode b_Law_law 310 = .ok (.if_icmp .eq 454, 3) := by decide +kernel
theorem d_Law_law_313 : decode b_Law_law 313 = .ok (.iconst 0, 1) := by decide +kernel
theorem d_Law_law_314 : decode b_Law_law 314 = .ok (.ireturn, 1) := by decide +kernel
theorem d_Law_law_315 : decode b_Law_law 315 = .ok (.aload_n 1, 1) := by decide +kernel
theorem d_Law_law_316 : decode b_Law_law 316 = .ok (.aload_n 0, 1) := by decide +kernel
theorem d_Law_law_317 : decode b_Law_law 317 = .ok (.iload_n 3, 1) := by decide +kernel
theorem d_Law_law_318 : decode b_Law_law 318 = .ok (.iconst 1, 1) := by decide +kernel
theorem d_Law_law_319 : decode b_Law_law 319 = .ok (.iadd, 1) := by decide +kernel
theorem d_Law_law_320 : decode b_Law_law 320 = .ok (.iaload, 1) := by decide +kernel
theorem d_Law_law_321 : decode b_Law_law 321 = .ok (.aload_n 0, 1) := by decide +kernel
theorem d_Law_law_322 : decode b_Law_law 322 = .ok (.iload_n 3, 1) := by decide +kernel
theorem d_Law_law_323 : decode b_Law_law 323 = .ok (.iconst 2, 1) := by decide +kernel
theorem d_Law_law_324 : decode b_Law_law 324 = .ok (.iadd, 1) := by decide +kernel
theorem d_Law_law_325 : decode b_Law_law 325 = .ok (.iaload, 1) := by decide +kernel
theorem d_Law_law_326 : decode b_Law_law 326 = .ok (.aload_n 0, 1) := by decide +kernel
theorem d_Law_law_327 : decode b_Law_law 327 = .ok (.iload_n 3, 1) := by decide +kernel
theorem d_Law_law_328 : decode b_Law_law 328 = .ok (.iconst 3, 1) := by decide +kernel
theorem d_Law_law_329 : decode b_Law_law 329 = .ok (.iadd, 1) := by decide +kernel
theorem d_Law_law_330 : decode b_Law_law 330 = .ok (.iaload, 1) := by decide +kernel
theorem d_Law_law_331 : decode b_Law_law 331 = .ok (.invokevirtual 35, 3) := by decide +kernel
theorem d_Law_law_334 : decode b_Law_law 334 = .ok (.aload_n 2, 1) := by decide +kernel
theorem d_Law_law_335 : decode b_Law_law 335 = .ok (.aload_n 0, 1) := by decide +kernel
theorem d_Law_law_336 : decode b_Law_law 336 = .ok (.iload_n 3, 1) := by decide +kernel
theorem d_Law_law_337 : decode b_Law_law 337 = .ok (.iconst 1, 1) := by decide +kernel
theorem d_Law_law_338 : decode b_Law_law 338 = .ok (.iadd, 1) := by decide +kernel
theorem d_Law_law_339 : decode b_Law_law 339 = .ok (.iaload, 1) := by decide +kernel
theorem d_Law_law_340 : decode b_Law_law 340 = .ok (.aload_n 0, 1) := by decide +kernel
theorem d_Law_law_341 : decode b_Law_law 341 = .ok (.iload_n 3, 1) := by decide +kernel
theorem d_Law_law_342 : decode b_Law_law 342 = .ok (.iconst 2, 1) := by decide +kernel
theorem d_Law_law_343 : decode b_Law_law 343 = .ok (.iadd, 1) := by decide +kernel
theorem d_Law_law_344 : decode b_Law_law 344 = .ok (.iaload, 1) := by decide +kernel
theorem d_Law_law_345 : decode b_Law_law 345 = .ok (.aload_n 0, 1) := by decide +kernel
theorem d_Law_law_346 : decode b_Law_law 346 = .ok (.iload_n 3, 1) := by decide +kernel
theorem d_Law_law_347 : decode b_Law_law 347 = .ok (.iconst 3, 1) := by decide +kernel
theorem d_Law_law_348 : decode b_Law_law 348 = .ok (.iadd, 1) := by decide +kernel
theorem d_Law_law_349 : decode b_Law_law 349 = .ok (.iaload, 1) := by decide +kernel
theorem d_Law_law_350 : decode b_Law_law 350 = .ok (.invokevirtual 38, 3) := by decide +kernel
theorem d_Law_law_353 : decode b_Law_law 353 = .ok (.if_icmp .eq 411, 3) := by decide +kernel
theorem d_Law_law_356 : decode b_Law_law 356 = .ok (.iconst 0, 1) := by decide +kernel
theorem d_Law_law_357 : decode b_Law_law 357 = .ok (.ireturn, 1) := by decide +kernel
theorem d_Law_law_358 : decode b_Law_law 358 = .ok (.aload_n 1, 1) := by decide +kernel
theorem d_Law_law_359 : decode b_Law_law 359 = .ok (.aload_n 0, 1) := by decide +kernel
theorem d_Law_law_360 : decode b_Law_law 360 = .ok (.iload_n 3, 1) := by decide +kernel
theorem d_Law_law_361 : decode b_Law_law 361 = .ok (.iconst 1, 1) := by decide +kernel
theorem d_Law_law_362 : decode b_Law_law 362 = .ok (.iadd, 1) := by decide +kernel
theorem d_Law_law_363 : decode b_Law_law 363 = .ok (.iaload, 1) := by decide +kernel
theorem d_Law_law_364 : decode b_Law_law 364 = .ok (.aload_n 0, 1) := by decide +kernel
theorem d_Law_law_365 : decode b_Law_law 365 = .ok (.iload_n 3, 1) := by decide +kernel
theorem d_Law_law_366 : decode b_Law_law 366 = .ok (.iconst 2, 1) := by decide +kernel
theorem d_Law_law_367 : decode b_Law_law 367 = .ok (.iadd, 1) := by decide +kernel
theorem d_Law_law_368 : decode b_Law_law 368 = .ok (.iaload, 1) := by decide +kernel
theorem d_Law_law_369 : decode b_Law_law 369 = .ok (.invokevirtual 39, 3) := by decide +kernel
theorem d_Law_law_372 : decode b_Law_law 372 = .ok (.aload_n 2, 1) := by decide +kernel
theorem d_Law_law_373 : decode b_Law_law 373 = .ok (.aload_n 0, 1) := by decide +kernel
theorem d_Law_law_374 : decode b_Law_law 374 = .ok (.iload_n 3, 1) := by decide +kernel
theorem d_Law_law_375 : decode b_Law_law 375 = .ok (.iconst 1, 1) := by decide +kernel
theorem d_Law_law_376 : decode b_Law_law 376 = .ok (.iadd, 1) := by decide +kernel
theorem d_Law_law_377 : decode b_Law_law 377 = .ok (.iaload, 1) := by decide +kernel
theorem d_Law_law_378 : decode b_Law_law 378 = .ok (.aload_n 0, 1) := by decide +kernel
theorem d_Law_law_379 : decode b_Law_law 379 = .ok (.iload_n 3, 1) := by decide +kernel
theorem d_Law_law_380 : decode b_Law_law 380 = .ok (.iconst 2, 1) := by decide +kernel
theorem d_Law_law_381 : decode b_Law_law 381 = .ok (.iadd, 1) := by decide +kernel
theorem d_Law_law_382 : decode b_Law_law 382 = .ok (.iaload, 1) := by decide +kernel
theorem d_Law_law_383 : decode b_Law_law 383 = .ok (.invokevirtual 42, 3) := by decide +kernel
theorem d_Law_law_386 : decode b_Law_law 386 = .ok (.if_icmp .eq 378, 3) := by decide +kernel
theorem d_Law_law_389 : decode b_Law_law 389 = .ok (.iconst 0, 1) := by decide +kernel
theorem d_Law_law_390 : decode b_Law_law 390 = .ok (.ireturn, 1) := by decide +kernel
theorem d_Law_law_391 : decode b_Law_law 391 = .ok (.aload_n 1, 1) := by decide +kernel
theorem d_Law_law_392 : decode b_Law_law 392 = .ok (.aload_n 0, 1) := by decide +kernel
theorem d_Law_law_393 : decode b_Law_law 393 = .ok (.iload_n 3, 1) := by decide +kernel
theorem d_Law_law_394 : decode b_Law_law 394 = .ok (.iconst 1, 1) := by decide +kernel
theorem d_Law_law_395 : decode b_Law_law 395 = .ok (.iadd, 1) := by decide +kernel
theorem d_Law_law_396 : decode b_Law_law 396 = .ok (.iaload, 1) := by decide +kernel
theorem d_Law_law_397 : decode b_Law_law 397 = .ok (.aload_n 0, 1) := by decide +kernel
theorem d_Law_law_398 : decode b_Law_law 398 = .ok (.iload_n 3, 1) := by decide +kernel
theorem d_Law_law_399 : decode b_Law_law 399 = .ok (.iconst 2, 1) := by decide +kernel
theorem d_Law_law_400 : decode b_Law_law 400 = .ok (.iadd, 1) := by decide +kernel
theorem d_Law_law_401 : decode b_Law_law 401 = .ok (.iaload, 1) := by decide +kernel
theorem d_Law_law_402 : decode b_Law_law 402 = .ok (.invokevirtual 43, 3) := by decide +kernel
theorem d_Law_law_405 : decode b_Law_law 405 = .ok (.aload_n 2, 1) := by decide +kernel
theorem d_Law_law_406 : decode b_Law_law 406 = .ok (.aload_n 0, 1) := by decide +kernel
theorem d_Law_law_407 : decode b_Law_law 407 = .ok (.iload_n 3, 1) := by decide +kernel
theorem d_Law_law_408 : decode b_Law_law 408 = .ok (.iconst 1, 1) := by decide +kernel
theorem d_Law_law_409 : decode b_Law_law 409 = .ok (.iadd, 1) := by decide +kernel
theorem d_Law_law_410 : decode b_Law_law 410 = .ok (.iaload, 1) := by decide +kernel
theorem d_Law_law_411 : decode b_Law_law 411 = .ok (.aload_n 0, 1) := by decide +kernel
theorem d_Law_law_412 : decode b_Law_law 412 = .ok (.iload_n 3, 1) := by decide +kernel
theorem d_Law_law_413 : decode b_Law_law 413 = .ok (.iconst 2, 1) := by decide +kernel
theorem d_Law_law_414 : decode b_Law_law 414 = .ok (.iadd, 1) := by decide +kernel
theorem d_Law_law_415 : decode b_Law_law 415 = .ok (.iaload, 1) := by decide +kernel
theorem d_Law_law_416 : decode b_Law_law 416 = .ok (.invokevirtual 46, 3) := by decide +kernel
theorem d_Law_law_419 : decode b_Law_law 419 = .ok (.if_icmp .eq 345, 3) := by decide +kernel
theorem d_Law_law_422 : decode b_Law_law 422 = .ok (.iconst 0, 1) := by decide +kernel
theorem d_Law_law_423 : decode b_Law_law 423 = .ok (.ireturn, 1) := by decide +kernel
theorem d_Law_law_424 : decode b_Law_law 424 = .ok (.aload_n 1, 1) := by decide +kernel
theorem d_Law_law_425 : decode b_Law_law 425 = .ok (.aload_n 0, 1) := by decide +kernel
theorem d_Law_law_426 : decode b_Law_law 426 = .ok (.iload_n 3, 1) := by decide +kernel
theorem d_Law_law_427 : decode b_Law_law 427 = .ok (.iconst 1, 1) := by decide +kernel
theorem d_Law_law_428 : decode b_Law_law 428 = .ok (.iadd, 1) := by decide +kernel
theorem d_Law_law_429 : decode b_Law_law 429 = .ok (.iaload, 1) := by decide +kernel
theorem d_Law_law_430 : decode b_Law_law 430 = .ok (.aload_n 0, 1) := by decide +kernel
theorem d_Law_law_431 : decode b_Law_law 431 = .ok (.iload_n 3, 1) := by decide +kernel
theorem d_Law_law_432 : decode b_Law_law 432 = .ok (.iconst 2, 1) := by decide +kernel
theorem d_Law_law_433 : decode b_Law_law 433 = .ok (.iadd, 1) := by decide +kernel
theorem d_Law_law_434 : decode b_Law_law 434 = .ok (.iaload, 1) := by decide +kernel
theorem d_Law_law_435 : decode b_Law_law 435 = .ok (.aload_n 0, 1) := by decide +kernel
theorem d_Law_law_436 : decode b_Law_law 436 = .ok (.iload_n 3, 1) := by decide +kernel
theorem d_Law_law_437 : decode b_Law_law 437 = .ok (.iconst 3, 1) := by decide +kernel
theorem d_Law_law_438 : decode b_Law_law 438 = .ok (.iadd, 1) := by decide +kernel
theorem d_Law_law_439 : decode b_Law_law 439 = .ok (.iaload, 1) := by decide +kernel
theorem d_Law_law_440 : decode b_Law_law 440 = .ok (.invokevirtual 47, 3) := by decide +kernel
theorem d_Law_law_443 : decode b_Law_law 443 = .ok (.aload_n 2, 1) := by decide +kernel
theorem d_Law_law_444 : decode b_Law_law 444 = .ok (.aload_n 0, 1) := by decide +kernel
theorem d_Law_law_445 : decode b_Law_law 445 = .ok (.iload_n 3, 1) := by decide +kernel
theorem d_Law_law_446 : decode b_Law_law 446 = .ok (.iconst 1, 1) := by decide +kernel
theorem d_Law_law_447 : decode b_Law_law 447 = .ok (.iadd, 1) := by decide +kernel
theorem d_Law_law_448 : decode b_Law_law 448 = .ok (.iaload, 1) := by decide +kernel
theorem d_Law_law_449 : decode b_Law_law 449 = .ok (.aload_n 0, 1) := by decide +kernel
theorem d_Law_law_450 : decode b_Law_law 450 = .ok (.iload_n 3, 1) := by decide +kernel
theorem d_Law_law_451 : decode b_Law_law 451 = .ok (.iconst 2, 1) := by decide +kernel
theorem d_Law_law_452 : decode b_Law_law 452 = .ok (.iadd, 1) := by decide +kernel
theorem d_Law_law_453 : decode b_Law_law 453 = .ok (.iaload, 1) := by decide +kernel
theorem d_Law_law_454 : decode b_Law_law 454 = .ok (.aload_n 0, 1) := by decide +kernel
theorem d_Law_law_455 : decode b_Law_law 455 = .ok (.iload_n 3, 1) := by decide +kernel
theorem d_Law_law_456 : decode b_Law_law 456 = .ok (.iconst 3, 1) := by decide +kernel
theorem d_Law_law_457 : decode b_Law_law 457 = .ok (.iadd, 1) := by decide +kernel
theorem d_Law_law_458 : decode b_Law_law 458 = .ok (.iaload, 1) := by decide +kernel
theorem d_Law_law_459 : decode b_Law_law 459 = .ok (.invokevirtual 50, 3) := by decide +kernel
theorem d_Law_law_462 : decode b_Law_law 462 = .ok (.if_icmp .eq 302, 3) := by decide +kernel
theorem d_Law_law_465 : decode b_Law_law 465 = .ok (.iconst 0, 1) := by decide +kernel
theorem d_Law_law_466 : decode b_Law_law 466 = .ok (.ireturn, 1) := by decide +kernel
theorem d_Law_law_467 : decode b_Law_law 467 = .ok (.aload_n 1, 1) := by decide +kernel
theorem d_Law_law_468 : decode b_Law_law 468 = .ok (.aload_n 0, 1) := by decide +kernel
theorem d_Law_law_469 : decode b_Law_law 469 = .ok (.iload_n 3, 1) := by decide +kernel
theorem d_Law_law_470 : decode b_Law_law 470 = .ok (.iconst 1, 1) := by decide +kernel
theorem d_Law_law_471 : decode b_Law_law 471 = .ok (.iadd, 1) := by decide +kernel
theorem d_Law_law_472 : decode b_Law_law 472 = .ok (.iaload, 1) := by decide +kernel
theorem d_Law_law_473 : decode b_Law_law 473 = .ok (.aload_n 0, 1) := by decide +kernel
theorem d_Law_law_474 : decode b_Law_law 474 = .ok (.iload_n 3, 1) := by decide +kernel
theorem d_Law_law_475 : decode b_Law_law 475 = .ok (.iconst 2, 1) := by decide +kernel
theorem d_Law_law_476 : decode b_Law_law 476 = .ok (.iadd, 1) := by decide +kernel
theorem d_Law_law_477 : decode b_Law_law 477 = .ok (.iaload, 1) := by decide +kernel
theorem d_Law_law_478 : decode b_Law_law 478 = .ok (.invokevirtual 51, 3) := by decide +kernel
theorem d_Law_law_481 : decode b_Law_law 481 = .ok (.aload_n 2, 1) := by decide +kernel
theorem d_Law_law_482 : decode b_Law_law 482 = .ok (.aload_n 0, 1) := by decide +kernel
theorem d_Law_law_483 : decode b_Law_law 483 = .ok (.iload_n 3, 1) := by decide +kernel
theorem d_Law_law_484 : decode b_Law_law 484 = .ok (.iconst 1, 1) := by decide +kernel
theorem d_Law_law_485 : decode b_Law_law 485 = .ok (.iadd, 1) := by decide +kernel
theorem d_Law_law_486 : decode b_Law_law 486 = .ok (.iaload, 1) := by decide +kernel
theorem d_Law_law_487 : decode b_Law_law 487 = .ok (.aload_n 0, 1) := by decide +kernel
theorem d_Law_law_488 : decode b_Law_law 488 = .ok (.iload_n 3, 1) := by decide +kernel
theorem d_Law_law_489 : decode b_Law_law 489 = .ok (.iconst 2, 1) := by decide +kernel
theorem d_Law_law_490 : decode b_Law_law 490 = .ok (.iadd, 1) := by decide +kernel
theorem d_Law_law_491 : decode b_Law_law 491 = .ok (.iaload, 1) := by decide +kernel
theorem d_Law_law_492 : decode b_Law_law 492 = .ok (.invokevirtual 55, 3) := by decide +kernel
theorem d_Law_law_495 : decode b_Law_law 495 = .ok (.if_icmp .eq 269, 3) := by decide +kernel
theorem d_Law_law_498 : decode b_Law_law 498 = .ok (.iconst 0, 1) := by decide +kernel
theorem d_Law_law_499 : decode b_Law_law 499 = .ok (.ireturn, 1) := by decide +kernel
theorem d_Law_law_500 : decode b_Law_law 500 = .ok (.aload_n 1, 1) := by decide +kernel
theorem d_Law_law_501 : decode b_Law_law 501 = .ok (.aload_n 0, 1) := by decide +kernel
theorem d_Law_law_502 : decode b_Law_law 502 = .ok (.iload_n 3, 1) := by decide +kernel
theorem d_Law_law_503 : decode b_Law_law 503 = .ok (.iconst 1, 1) := by decide +kernel
theorem d_Law_law_504 : decode b_Law_law 504 = .ok (.iadd, 1) := by decide +kernel
theorem d_Law_law_505 : decode b_Law_law 505 = .ok (.iaload, 1) := by decide +kernel
theorem d_Law_law_506 : decode b_Law_law 506 = .ok (.aload_n 0, 1) := by decide +kernel
theorem d_Law_law_507 : decode b_Law_law 507 = .ok (.iload_n 3, 1) := by decide +kernel
theorem d_Law_law_508 : decode b_Law_law 508 = .ok (.iconst 2, 1) := by decide +kernel
theorem d_Law_law_509 : decode b_Law_law 509 = .ok (.iadd, 1) := by decide +kernel
theorem d_Law_law_510 : decode b_Law_law 510 = .ok (.iaload, 1) := by decide +kernel
theorem d_Law_law_511 : decode b_Law_law 511 = .ok (.invokevirtual 56, 3) := by decide +kernel
theorem d_Law_law_514 : decode b_Law_law 514 = .ok (.aload_n 2, 1) := by decide +kernel
theorem d_Law_law_515 : decode b_Law_law 515 = .ok (.aload_n 0, 1) := by decide +kernel
theorem d_Law_law_516 : decode b_Law_law 516 = .ok (.iload_n 3, 1) := by decide +kernel
theorem d_Law_law_517 : decode b_Law_law 517 = .ok (.iconst 1, 1) := by decide +kernel
theorem d_Law_law_518 : decode b_Law_law 518 = .ok (.iadd, 1) := by decide +kernel
theorem d_Law_law_519 : decode b_Law_law 519 = .ok (.iaload, 1) := by decide +kernel
theorem d_Law_law_520 : decode b_Law_law 520 = .ok (.aload_n 0, 1) := by decide +kernel
theorem d_Law_law_521 : decode b_Law_law 521 = .ok (.iload_n 3, 1) := by decide +kernel
theorem d_Law_law_522 : decode b_Law_law 522 = .ok (.iconst 2, 1) := by decide +kernel
theorem d_Law_law_523 : decode b_Law_law 523 = .ok (.iadd, 1) := by decide +kernel
theorem d_Law_law_524 : decode b_Law_law 524 = .ok (.iaload, 1) := by decide +kernel
theorem d_Law_law_525 : decode b_Law_law 525 = .ok (.invokevirtual 59, 3) := by decide +kernel
theorem d_Law_law_528 : decode b_Law_law 528 = .ok (.if_icmp .eq 236, 3) := by decide +kernel
theorem d_Law_law_531 : decode b_Law_law 531 = .ok (.iconst 0, 1) := by decide +kernel
theorem d_Law_law_532 : decode b_Law_law 532 = .ok (.ireturn, 1) := by decide +kernel
theorem d_Law_law_533 : decode b_Law_law 533 = .ok (.aload_n 1, 1) := by decide +kernel
theorem d_Law_law_534 : decode b_Law_law 534 = .ok (.aload_n 0, 1) := by decide +kernel
theorem d_Law_law_535 : decode b_Law_law 535 = .ok (.iload_n 3, 1) := by decide +kernel
theorem d_Law_law_536 : decode b_Law_law 536 = .ok (.iconst 1, 1) := by decide +kernel
theorem d_Law_law_537 : decode b_Law_law 537 = .ok (.iadd, 1) := by decide +kernel
theorem d_Law_law_538 : decode b_Law_law 538 = .ok (.iaload, 1) := by decide +kernel
theorem d_Law_law_539 : decode b_Law_law 539 = .ok (.invokevirtual 60, 3) := by decide +kernel
theorem d_Law_law_542 : decode b_Law_law 542 = .ok (.aload_n 2, 1) := by decide +kernel
theorem d_Law_law_543 : decode b_Law_law 543 = .ok (.aload_n 0, 1) := by decide +kernel
theorem d_Law_law_544 : decode b_Law_law 544 = .ok (.iload_n 3, 1) := by decide +kernel
theorem d_Law_law_545 : decode b_Law_law 545 = .ok (.iconst 1, 1) := by decide +kernel
theorem d_Law_law_546 : decode b_Law_law 546 = .ok (.iadd, 1) := by decide +kernel
theorem d_Law_law_547 : decode b_Law_law 547 = .ok (.iaload, 1) := by decide +kernel
theorem d_Law_law_548 : decode b_Law_law 548 = .ok (.invokevirtual 64, 3) := by decide +kernel
theorem d_Law_law_551 : decode b_Law_law 551 = .ok (.if_icmp .eq 213, 3) := by decide +kernel
theorem d_Law_law_554 : decode b_Law_law 554 = .ok (.iconst 0, 1) := by decide +kernel
theorem d_Law_law_555 : decode b_Law_law 555 = .ok (.ireturn, 1) := by decide +kernel
theorem d_Law_law_556 : decode b_Law_law 556 = .ok (.aload_n 1, 1) := by decide +kernel
theorem d_Law_law_557 : decode b_Law_law 557 = .ok (.aload_n 0, 1) := by decide +kernel
theorem d_Law_law_558 : decode b_Law_law 558 = .ok (.iload_n 3, 1) := by decide +kernel
theorem d_Law_law_559 : decode b_Law_law 559 = .ok (.iconst 1, 1) := by decide +kernel
theorem d_Law_law_560 : decode b_Law_law 560 = .ok (.iadd, 1) := by decide +kernel
theorem d_Law_law_561 : decode b_Law_law 561 = .ok (.iaload, 1) := by decide +kernel
theorem d_Law_law_562 : decode b_Law_law 562 = .ok (.invokevirtual 65, 3) := by decide +kernel
theorem d_Law_law_565 : decode b_Law_law 565 = .ok (.aload_n 2, 1) := by decide +kernel
theorem d_Law_law_566 : decode b_Law_law 566 = .ok (.aload_n 0, 1) := by decide +kernel
theorem d_Law_law_567 : decode b_Law_law 567 = .ok (.iload_n 3, 1) := by decide +kernel
theorem d_Law_law_568 : decode b_Law_law 568 = .ok (.iconst 1, 1) := by decide +kernel
theorem d_Law_law_569 : decode b_Law_law 569 = .ok (.iadd, 1) := by decide +kernel
theorem d_Law_law_570 : decode b_Law_law 570 = .ok (.iaload, 1) := by decide +kernel
theorem d_Law_law_571 : decode b_Law_law 571 = .ok (.invokevirtual 68, 3) := by decide +kernel
theorem d_Law_law_574 : decode b_Law_law 574 = .ok (.if_icmp .eq 190, 3) := by decide +kernel
theorem d_Law_law_577 : decode b_Law_law 577 = .ok (.iconst 0, 1) := by decide +kernel
theorem d_Law_law_578 : decode b_Law_law 578 = .ok (.ireturn, 1) := by decide +kernel
theorem d_Law_law_579 : decode b_Law_law 579 = .ok (.aload_n 1, 1) := by decide +kernel
theorem d_Law_law_580 : decode b_Law_law 580 = .ok (.aload_n 0, 1) := by decide +kernel
theorem d_Law_law_581 : decode b_Law_law 581 = .ok (.iload_n 3, 1) := by decide +kernel
theorem d_Law_law_582 : decode b_Law_law 582 = .ok (.iconst 1, 1) := by decide +kernel
theorem d_Law_law_583 : decode b_Law_law 583 = .ok (.iadd, 1) := by decide +kernel
theorem d_Law_law_584 : decode b_Law_law 584 = .ok (.iaload, 1) := by decide +kernel
theorem d_Law_law_585 : decode b_Law_law 585 = .ok (.aload_n 0, 1) := by decide +kernel
theorem d_Law_law_586 : decode b_Law_law 586 = .ok (.iload_n 3, 1) := by decide +kernel
theorem d_Law_law_587 : decode b_Law_law 587 = .ok (.iconst 2, 1) := by decide +kernel
theorem d_Law_law_588 : decode b_Law_law 588 = .ok (.iadd, 1) := by decide +kernel
theorem d_Law_law_589 : decode b_Law_law 589 = .ok (.iaload, 1) := by decide +kernel
theorem d_Law_law_590 : decode b_Law_law 590 = .ok (.invokevirtual 69, 3) := by decide +kernel
theorem d_Law_law_593 : decode b_Law_law 593 = .ok (.aload_n 2, 1) := by decide +kernel
theorem d_Law_law_594 : decode b_Law_law 594 = .ok (.aload_n 0, 1) := by decide +kernel
theorem d_Law_law_595 : decode b_Law_law 595 = .ok (.iload_n 3, 1) := by decide +kernel
theorem d_Law_law_596 : decode b_Law_law 596 = .ok (.iconst 1, 1) := by decide +kernel
theorem d_Law_law_597 : decode b_Law_law 597 = .ok (.iadd, 1) := by decide +kernel
theorem d_Law_law_598 : decode b_Law_law 598 = .ok (.iaload, 1) := by decide +kernel
theorem d_Law_law_599 : decode b_Law_law 599 = .ok (.aload_n 0, 1) := by decide +kernel
theorem d_Law_law_600 : decode b_Law_law 600 = .ok (.iload_n 3, 1) := by decide +kernel
theorem d_Law_law_601 : decode b_Law_law 601 = .ok (.iconst 2, 1) := by decide +kernel
theorem d_Law_law_602 : decode b_Law_law 602 = .ok (.iadd, 1) := by decide +kernel
theorem d_Law_law_603 : decode b_Law_law 603 = .ok (.iaload, 1) := by decide +kernel
theorem d_Law_law_604 : decode b_Law_law 604 = .ok (.invokevirtual 72, 3) := by decide +kernel
theorem d_Law_law_607 : decode b_Law_law 607 = .ok (.if_icmp .eq 157, 3) := by decide +kernel
theorem d_Law_law_610 : decode b_Law_law 610 = .ok (.iconst 0, 1) := by decide +kernel
theorem d_Law_law_611 : decode b_Law_law 611 = .ok (.ireturn, 1) := by decide +kernel
theorem d_Law_law_612 : decode b_Law_law 612 = .ok (.aload_n 1, 1) := by decide +kernel
theorem d_Law_law_613 : decode b_Law_law 613 = .ok (.aload_n 0, 1) := by decide +kernel
theorem d_Law_law_614 : decode b_Law_law 614 = .ok (.iload_n 3, 1) := by decide +kernel
theorem d_Law_law_615 : decode b_Law_law 615 = .ok (.iconst 1, 1) := by decide +kernel
theorem d_Law_law_616 : decode b_Law_law 616 = .ok (.iadd, 1) := by decide +kernel
theorem d_Law_law_617 : decode b_Law_law 617 = .ok (.iaload, 1) := by decide +kernel
theorem d_Law_law_618 : decode b_Law_law 618 = .ok (.aload_n 0, 1) := by decide +kernel
theorem d_Law_law_619 : decode b_Law_law 619 = .ok (.iload_n 3, 1) := by decide +kernel
theorem d_Law_law_620 : decode b_Law_law 620 = .ok (.iconst 2, 1) := by decide +kernel
theorem d_Law_law_621 : decode b_Law_law 621 = .ok (.iadd, 1) := by decide +kernel
theorem d_Law_law_622 : decode b_Law_law 622 = .ok (.iaload, 1) := by decide +kernel
theorem d_Law_law_623 : decode b_Law_law 623 = .ok (.invokevirtual 73, 3) := by decide +kernel
theorem d_Law_law_626 : decode b_Law_law 626 = .ok (.aload_n 2, 1) := by decide +kernel
theorem d_Law_law_627 : decode b_Law_law 627 = .ok (.aload_n 0, 1) := by decide +kernel
theorem d_Law_law_628 : decode b_Law_law 628 = .ok (.iload_n 3, 1) := by decide +kernel
theorem d_Law_law_629 : decode b_Law_law 629 = .ok (.iconst 1, 1) := by decide +kernel
theorem d_Law_law_630 : decode b_Law_law 630 = .ok (.iadd, 1) := by decide +kernel
theorem d_Law_law_631 : decode b_Law_law 631 = .ok (.iaload, 1) := by decide +kernel
theorem d_Law_law_632 : decode b_Law_law 632 = .ok (.aload_n 0, 1) := by decide +kernel
theorem d_Law_law_633 : decode b_Law_law 633 = .ok (.iload_n 3, 1) := by decide +kernel
theorem d_Law_law_634 : decode b_Law_law 634 = .ok (.iconst 2, 1) := by decide +kernel
theorem d_Law_law_635 : decode b_Law_law 635 = .ok (.iadd, 1) := by decide +kernel
theorem d_Law_law_636 : decode b_Law_law 636 = .ok (.iaload, 1) := by decide +kernel
theorem d_Law_law_637 : decode b_Law_law 637 = .ok (.invokevirtual 76, 3) := by decide +kernel
theorem d_Law_law_640 : decode b_Law_law 640 = .ok (.if_icmp .eq 124, 3) := by decide +kernel
theorem d_Law_law_643 : decode b_Law_law 643 = .ok (.iconst 0, 1) := by decide +kernel
theorem d_Law_law_644 : decode b_Law_law 644 = .ok (.ireturn, 1) := by decide +kernel
theorem d_Law_law_645 : decode b_Law_law 645 = .ok (.aload_n 1, 1) := by decide +kernel
theorem d_Law_law_646 : decode b_Law_law 646 = .ok (.aload_n 0, 1) := by decide +kernel
theorem d_Law_law_647 : decode b_Law_law 647 = .ok (.iload_n 3, 1) := by decide +kernel
theorem d_Law_law_648 : decode b_Law_law 648 = .ok (.iconst 1, 1) := by decide +kernel
theorem d_Law_law_649 : decode b_Law_law 649 = .ok (.iadd, 1) := by decide +kernel
theorem d_Law_law_650 : decode b_Law_law 650 = .ok (.iaload, 1) := by decide +kernel
theorem d_Law_law_651 : decode b_Law_law 651 = .ok (.aload_n 0, 1) := by decide +kernel
theorem d_Law_law_652 : decode b_Law_law 652 = .ok (.iload_n 3, 1) := by decide +kernel
theorem d_Law_law_653 : decode b_Law_law 653 = .ok (.iconst 2, 1) := by decide +kernel
theorem d_Law_law_654 : decode b_Law_law 654 = .ok (.iadd, 1) := by decide +kernel
theorem d_Law_law_655 : decode b_Law_law 655 = .ok (.iaload, 1) := by decide +kernel
theorem d_Law_law_656 : decode b_Law_law 656 = .ok (.aload_n 0, 1) := by decide +kernel
theorem d_Law_law_657 : decode b_Law_law 657 = .ok (.iload_n 3, 1) := by decide +kernel
theorem d_Law_law_658 : decode b_Law_law 658 = .ok (.iconst 3, 1) := by decide +kernel
theorem d_Law_law_659 : decode b_Law_law 659 = .ok (.iadd, 1) := by decide +kernel
theorem d_Law_law_660 : decode b_Law_law 660 = .ok (.iaload, 1) := by decide +kernel
theorem d_Law_law_661 : decode b_Law_law 661 = .ok (.invokevirtual 77, 3) := by decide +kernel
theorem d_Law_law_664 : decode b_Law_law 664 = .ok (.aload_n 2, 1) := by decide +kernel
theorem d_Law_law_665 : decode b_Law_law 665 = .ok (.aload_n 0, 1) := by decide +kernel
theorem d_Law_law_666 : decode b_Law_law 666 = .ok (.iload_n 3, 1) := by decide +kernel
theorem d_Law_law_667 : decode b_Law_law 667 = .ok (.iconst 1, 1) := by decide +kernel
theorem d_Law_law_668 : decode b_Law_law 668 = .ok (.iadd, 1) := by decide +kernel
theorem d_Law_law_669 : decode b_Law_law 669 = .ok (.iaload, 1) := by decide +kernel
theorem d_Law_law_670 : decode b_Law_law 670 = .ok (.aload_n 0, 1) := by decide +kernel
theorem d_Law_law_671 : decode b_Law_law 671 = .ok (.iload_n 3, 1) := by decide +kernel
theorem d_Law_law_672 : decode b_Law_law 672 = .ok (.iconst 2, 1) := by decide +kernel
theorem d_Law_law_673 : decode b_Law_law 673 = .ok (.iadd, 1) := by decide +kernel
theorem d_Law_law_674 : decode b_Law_law 674 = .ok (.iaload, 1) := by decide +kernel
theorem d_Law_law_675 : decode b_Law_law 675 = .ok (.aload_n 0, 1) := by decide +kernel
theorem d_Law_law_676 : decode b_Law_law 676 = .ok (.iload_n 3, 1) := by decide +kernel
theorem d_Law_law_677 : decode b_Law_law 677 = .ok (.iconst 3, 1) := by decide +kernel
theorem d_Law_law_678 : decode b_Law_law 678 = .ok (.iadd, 1) := by decide +kernel
theorem d_Law_law_679 : decode b_Law_law 679 = .ok (.iaload, 1) := by decide +kernel
theorem d_Law_law_680 : decode b_Law_law 680 = .ok (.invokevirtual 80, 3) := by decide +kernel
theorem d_Law_law_683 : decode b_Law_law 683 = .ok (.if_icmp .eq 81, 3) := by decide +kernel
theorem d_Law_law_686 : decode b_Law_law 686 = .ok (.iconst 0, 1) := by decide +kernel
theorem d_Law_law_687 : decode b_Law_law 687 = .ok (.ireturn, 1) := by decide +kernel
theorem d_Law_law_688 : decode b_Law_law 688 = .ok (.aload_n 1, 1) := by decide +kernel
theorem d_Law_law_689 : decode b_Law_law 689 = .ok (.aload_n 0, 1) := by decide +kernel
theorem d_Law_law_690 : decode b_Law_law 690 = .ok (.iload_n 3, 1) := by decide +kernel
theorem d_Law_law_691 : decode b_Law_law 691 = .ok (.iconst 1, 1) := by decide +kernel
theorem d_Law_law_692 : decode b_Law_law 692 = .ok (.iadd, 1) := by decide +kernel
theorem d_Law_law_693 : decode b_Law_law 693 = .ok (.iaload, 1) := by decide +kernel
theorem d_Law_law_694 : decode b_Law_law 694 = .ok (.aload_n 0, 1) := by decide +kernel
theorem d_Law_law_695 : decode b_Law_law 695 = .ok (.iload_n 3, 1) := by decide +kernel
theorem d_Law_law_696 : decode b_Law_law 696 = .ok (.iconst 2, 1) := by decide +kernel
theorem d_Law_law_697 : decode b_Law_law 697 = .ok (.iadd, 1) := by decide +kernel
theorem d_Law_law_698 : decode b_Law_law 698 = .ok (.iaload, 1) := by decide +kernel
theorem d_Law_law_699 : decode b_Law_law 699 = .ok (.invokevirtual 81, 3) := by decide +kernel
theorem d_Law_law_702 : decode b_Law_law 702 = .ok (.aload_n 2, 1) := by decide +kernel
theorem d_Law_law_703 : decode b_Law_law 703 = .ok (.aload_n 0, 1) := by decide +kernel
theorem d_Law_law_704 : decode b_Law_law 704 = .ok (.iload_n 3, 1) := by decide +kernel
theorem d_Law_law_705 : decode b_Law_law 705 = .ok (.iconst 1, 1) := by decide +kernel
theorem d_Law_law_706 : decode b_Law_law 706 = .ok (.iadd, 1) := by decide +kernel
theorem d_Law_law_707 : decode b_Law_law 707 = .ok (.iaload, 1) := by decide +kernel
theorem d_Law_law_708 : decode b_Law_law 708 = .ok (.aload_n 0, 1) := by decide +kernel
theorem d_Law_law_709 : decode b_Law_law 709 = .ok (.iload_n 3, 1) := by decide +kernel
theorem d_Law_law_710 : decode b_Law_law 710 = .ok (.iconst 2, 1) := by decide +kernel
theorem d_Law_law_711 : decode b_Law_law 711 = .ok (.iadd, 1) := by decide +kernel
theorem d_Law_law_712 : decode b_Law_law 712 = .ok (.iaload, 1) := by decide +kernel
theorem d_Law_law_713 : decode b_Law_law 713 = .ok (.invokevirtual 84, 3) := by decide +kernel
theorem d_Law_law_716 : decode b_Law_law 716 = .ok (.if_icmp .eq 48, 3) := by decide +kernel
theorem d_Law_law_719 : decode b_Law_law 719 = .ok (.iconst 0, 1) := by decide +kernel
theorem d_Law_law_720 : decode b_Law_law 720 = .ok (.ireturn, 1) := by decide +kernel
theorem d_Law_law_721 : decode b_Law_law 721 = .ok (.aload_n 1, 1) := by decide +kernel
theorem d_Law_law_722 : decode b_Law_law 722 = .ok (.aload_n 0, 1) := by decide +kernel
theorem d_Law_law_723 : decode b_Law_law 723 = .ok (.iload_n 3, 1) := by decide +kernel
theorem d_Law_law_724 : decode b_Law_law 724 = .ok (.iconst 1, 1) := by decide +kernel
theorem d_Law_law_725 : decode b_Law_law 725 = .ok (.iadd, 1) := by decide +kernel
theorem d_Law_law_726 : decode b_Law_law 726 = .ok (.iaload, 1) := by decide +kernel
theorem d_Law_law_727 : decode b_Law_law 727 = .ok (.aload_n 0, 1) := by decide +kernel
theorem d_Law_law_728 : decode b_Law_law 728 = .ok (.iload_n 3, 1) := by decide +kernel
theorem d_Law_law_729 : decode b_Law_law 729 = .ok (.iconst 2, 1) := by decide +kernel
theorem d_Law_law_730 : decode b_Law_law 730 = .ok (.iadd, 1) := by decide +kernel
theorem d_Law_law_731 : decode b_Law_law 731 = .ok (.iaload, 1) := by decide +kernel
theorem d_Law_law_732 : decode b_Law_law 732 = .ok (.aload_n 0, 1) := by decide +kernel
theorem d_Law_law_733 : decode b_Law_law 733 = .ok (.iload_n 3, 1) := by decide +kernel
theorem d_Law_law_734 : decode b_Law_law 734 = .ok (.iconst 3, 1) := by decide +kernel
theorem d_Law_law_735 : decode b_Law_law 735 = .ok (.iadd, 1) := by decide +kernel
theorem d_Law_law_736 : decode b_Law_law 736 = .ok (.iaload, 1) := by decide +kernel
theorem d_Law_law_737 : decode b_Law_law 737 = .ok (.invokevirtual 85, 3) := by decide +kernel
theorem d_Law_law_740 : decode b_Law_law 740 = .ok (.aload_n 2, 1) := by decide +kernel
theorem d_Law_law_741 : decode b_Law_law 741 = .ok (.aload_n 0, 1) := by decide +kernel
theorem d_Law_law_742 : decode b_Law_law 742 = .ok (.iload_n 3, 1) := by decide +kernel
theorem d_Law_law_743 : decode b_Law_law 743 = .ok (.iconst 1, 1) := by decide +kernel
theorem d_Law_law_744 : decode b_Law_law 744 = .ok (.iadd, 1) := by decide +kernel
theorem d_Law_law_745 : decode b_Law_law 745 = .ok (.iaload, 1) := by decide +kernel
theorem d_Law_law_746 : decode b_Law_law 746 = .ok (.aload_n 0, 1) := by decide +kernel
theorem d_Law_law_747 : decode b_Law_law 747 = .ok (.iload_n 3, 1) := by decide +kernel
theorem d_Law_law_748 : decode b_Law_law 748 = .ok (.iconst 2, 1) := by decide +kernel
theorem d_Law_law_749 : decode b_Law_law 749 = .ok (.iadd, 1) := by decide +kernel
theorem d_Law_law_750 : decode b_Law_law 750 = .ok (.iaload, 1) := by decide +kernel
theorem d_Law_law_751 : decode b_Law_law 751 = .ok (.aload_n 0, 1) := by decide +kernel
theorem d_Law_law_752 : decode b_Law_law 752 = .ok (.iload_n 3, 1) := by decide +kernel
theorem d_Law_law_753 : decode b_Law_law 753 = .ok (.iconst 3, 1) := by decide +kernel
theorem d_Law_law_754 : decode b_Law_law 754 = .ok (.iadd, 1) := by decide +kernel
theorem d_Law_law_755 : decode b_Law_law 755 = .ok (.iaload, 1) := by decide +kernel
theorem d_Law_law_756 : decode b_Law_law 756 = .ok (.invokevirtual 88, 3) := by decide +kernel
theorem d_Law_law_759 : decode b_Law_law 759 = .ok (.if_icmp .eq 5, 3) := by decide +kernel
theorem d_Law_law_762 : decode b_Law_law 762 = .ok (.iconst 0, 1) := by decide +kernel
theorem d_Law_law_763 : decode b_Law_law 763 = .ok (.ireturn, 1) := by decide +kernel
theorem d_Law_law_764 : decode b_Law_law 764 = .ok (.iinc 3 4, 3) := by decide +kernel
theorem d_Law_law_767 : decode b_Law_law 767 = .ok (.goto (-749), 3) := by decide +kernel
theorem d_Law_law_770 : decode b_Law_law 770 = .ok (.iconst 1, 1) := by decide +kernel
theorem d_Law_law_771 : decode b_Law_law 771 = .ok (.ireturn, 1) := by decide +kernel
