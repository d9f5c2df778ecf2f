theorem d_L_law_0 : decode b_L_law 0 = .ok (.new 7, 3) := by decide +kernel
theorem d_L_law_3 : decode b_L_law 3 = .ok (.dup, 1) := by decide +kernel
theorem d_L_law_4 : decode b_L_law 4 = .ok (.invokespecial 9, 3) := by decide +kernel
theorem d_L_law_7 : decode b_L_law 7 = .ok (.astore_n 1, 1) := by decide +kernel
theorem d_L_law_8 : decode b_L_law 8 = .ok (.new 10, 3) := by decide +kernel
theorem d_L_law_11 : decode b_L_law 11 = .ok (.dup, 1) := by decide +kernel
theorem d_L_law_12 : decode b_L_law 12 = .ok (.invokespecial 12, 3) := by decide +kernel
theorem d_L_law_15 : decode b_L_law 15 = .ok (.astore_n 2, 1) := by decide +kernel
theorem d_L_law_16 : decode b_L_law 16 = .ok (.iconst 0, 1) := by decide +kernel
theorem d_L_law_17 : decode b_L_law 17 = .ok (.istore_n 3, 1) := by decide +kernel
theorem d_L_law_18 : decode b_L_law 18 = .ok (.iload_n 3, 1) := by decide +kernel
theorem d_L_law_19 : decode b_L_law 19 = .ok (.aload_n 0, 1) := by decide +kernel
theorem d_L_law_20 : decode b_L_law 20 = .ok (.arraylength, 1) := by decide +kernel
theorem d_L_law_21 : decode b_L_law 21 = .ok (.iconst 5, 1) := by decide +kernel
theorem d_L_law_22 : decode b_L_law 22 = .ok (.isub, 1) := by decide +kernel
theorem d_L_law_23 : decode b_L_law 23 = .ok (.if_icmp .gt 590, 3) := by decide +kernel
theorem d_L_law_26 : decode b_L_law 26 = .ok (.aload_n 0, 1) := by decide +kernel
theorem d_L_law_27 : decode b_L_law 27 = .ok (.iload_n 3, 1) := by decide +kernel
theorem d_L_law_28 : decode b_L_law 28 = .ok (.iaload, 1) := by decide +kernel
theorem d_L_law_29 : decode b_L_law 29 = .ok (.bipush 31, 2) := by decide +kernel
theorem d_L_law_31 : decode b_L_law 31 = .ok (.iand, 1) := by decide +kernel
theorem d_L_law_32 : decode b_L_law 32 = .ok (.tableswitch 575 0 16 #[84, 123, 176, 210, 253, 277, 330, 364, 407, 431, 444, 457, 470, 483, 506, 529, 552], 84) := by decide +kernel
theorem d_L_law_116 : decode b_L_law 116 = .ok (.aload_n 1, 1) := by decide +kernel
theorem d_L_law_117 : decode b_L_law 117 = .ok (.aload_n 0, 1) := by decide +kernel
theorem d_L_law_118 : decode b_L_law 118 = .ok (.iload_n 3, 1) := by decide +kernel
theorem d_L_law_119 : decode b_L_law 119 = .ok (.iconst 1, 1) := by decide +kernel
theorem d_L_law_120 : decode b_L_law 120 = .ok (.iadd, 1) := by decide +kernel
theorem d_L_law_121 : decode b_L_law 121 = .ok (.iaload, 1) := by decide +kernel
theorem d_L_law_122 : decode b_L_law 122 = .ok (.ifCond .eq 7, 3) := by decide +kernel
theorem d_L_law_125 : decode b_L_law 125 = .ok (.iconst 1, 1) := by decide +kernel
theorem d_L_law_126 : decode b_L_law 126 = .ok (.goto 4, 3) := by decide +kernel
theorem d_L_law_129 : decode b_L_law 129 = .ok (.iconst 0, 1) := by decide +kernel
theorem d_L_law_130 : decode b_L_law 130 = .ok (.invokevirtual 13, 3) := by decide +kernel
theorem d_L_law_133 : decode b_L_law 133 = .ok (.aload_n 2, 1) := by decide +kernel
theorem d_L_law_134 : decode b_L_law 134 = .ok (.aload_n 0, 1) := by decide +kernel
theorem d_L_law_135 : decode b_L_law 135 = .ok (.iload_n 3, 1) := by decide +kernel
theorem d_L_law_136 : decode b_L_law 136 = .ok (.iconst 1, 1) := by decide +kernel
theorem d_L_law_137 : decode b_L_law 137 = .ok (.iadd, 1) := by decide +kernel
theorem d_L_law_138 : decode b_L_law 138 = .ok (.iaload, 1) := by decide +kernel
theorem d_L_law_139 : decode b_L_law 139 = .ok (.ifCond .eq 7, 3) := by decide +kernel
theorem d_L_law_142 : decode b_L_law 142 = .ok (.iconst 1, 1) := by decide +kernel
theorem d_L_law_143 : decode b_L_law 143 = .ok (.goto 4, 3) := by decide +kernel
theorem d_L_law_146 : decode b_L_law 146 = .ok (.iconst 0, 1) := by decide +kernel
theorem d_L_law_147 : decode b_L_law 147 = .ok (.invokevirtual 17, 3) := by decide +kernel
theorem d_L_law_150 : decode b_L_law 150 = .ok (.if_icmp .eq 457, 3) := by decide +kernel
theorem d_L_law_153 : decode b_L_law 153 = .ok (.iconst 0, 1) := by decide +kernel
theorem d_L_law_154 : decode b_L_law 154 = .ok (.ireturn, 1) := by decide +kernel
theorem d_L_law_155 : decode b_L_law 155 = .ok (.aload_n 1, 1) := by decide +kernel
theorem d_L_law_156 : decode b_L_law 156 = .ok (.aload_n 0, 1) := by decide +kernel
theorem d_L_law_157 : decode b_L_law 157 = .ok (.iload_n 3, 1) := by decide +kernel
theorem d_L_law_158 : decode b_L_law 158 = .ok (.iconst 1, 1) := by decide +kernel
theorem d_L_law_159 : decode b_L_law 159 = .ok (.iadd, 1) := by decide +kernel
theorem d_L_law_160 : decode b_L_law 160 = .ok (.iaload, 1) := by decide +kernel
theorem d_L_law_161 : decode b_L_law 161 = .ok (.aload_n 0, 1) := by decide +kernel
theorem d_L_law_162 : decode b_L_law 162 = .ok (.iload_n 3, 1) := by decide +kernel
theorem d_L_law_163 : decode b_L_law 163 = .ok (.iconst 2, 1) := by decide +kernel
theorem d_L_law_164 : decode b_L_law 164 = .ok (.iadd, 1) := by decide +kernel
theorem d_L_law_165 : decode b_L_law 165 = .ok (.iaload, 1) := by decide +kernel
theorem d_L_law_166 : decode b_L_law 166 = .ok (.aload_n 0, 1) := by decide +kernel
theorem d_L_law_167 : decode b_L_law 167 = .ok (.iload_n 3, 1) := by decide +kernel
theorem d_L_law_168 : decode b_L_law 168 = .ok (.iconst 3, 1) := by decide +kernel
theorem d_L_law_169 : decode b_L_law 169 = .ok (.iadd, 1) := by decide +kernel
theorem d_L_law_170 : decode b_L_law 170 = .ok (.iaload, 1) := by decide +kernel
theorem d_L_law_171 : decode b_L_law 171 = .ok (.aload_n 0, 1) := by decide +kernel
theorem d_L_law_172 : decode b_L_law 172 = .ok (.iload_n 3, 1) := by decide +kernel
theorem d_L_law_173 : decode b_L_law 173 = .ok (.iconst 4, 1) := by decide +kernel
theorem d_L_law_174 : decode b_L_law 174 = .ok (.iadd, 1) := by decide +kernel
theorem d_L_law_175 : decode b_L_law 175 = .ok (.iaload, 1) := by decide +kernel
theorem d_L_law_176 : decode b_L_law 176 = .ok (.invokevirtual 18, 3) := by decide +kernel
theorem d_L_law_179 : decode b_L_law 179 = .ok (.aload_n 2, 1) := by decide +kernel
theorem d_L_law_180 : decode b_L_law 180 = .ok (.aload_n 0, 1) := by decide +kernel
theorem d_L_law_181 : decode b_L_law 181 = .ok (.iload_n 3, 1) := by decide +kernel
theorem d_L_law_182 : decode b_L_law 182 = .ok (.iconst 1, 1) := by decide +kernel
theorem d_L_law_183 : decode b_L_law 183 = .ok (.iadd, 1) := by decide +kernel
theorem d_L_law_184 : decode b_L_law 184 = .ok (.iaload, 1) := by decide +kernel
theorem d_L_law_185 : decode b_L_law 185 = .ok (.aload_n 0, 1) := by decide +kernel
theorem d_L_law_186 : decode b_L_law 186 = .ok (.iload_n 3, 1) := by decide +kernel
theorem d_L_law_187 : decode b_L_law 187 = .ok (.iconst 2, 1) := by decide +kernel
theorem d_L_law_188 : decode b_L_law 188 = .ok (.iadd, 1) := by decide +kernel
theorem d_L_law_189 : decode b_L_law 189 = .ok (.iaload, 1) := by decide +kernel
theorem d_L_law_190 : decode b_L_law 190 = .ok (.aload_n 0, 1) := by decide +kernel
theorem d_L_law_191 : decode b_L_law 191 = .ok (.iload_n 3, 1) := by decide +kernel
theorem d_L_law_192 : decode b_L_law 192 = .ok (.iconst 3, 1) := by decide +kernel
theorem d_L_law_193 : decode b_L_law 193 = .ok (.iadd, 1) := by decide +kernel
theorem d_L_law_194 : decode b_L_law 194 = .ok (.iaload, 1) := by decide +kernel
theorem d_L_law_195 : decode b_L_law 195 = .ok (.aload_n 0, 1) := by decide +kernel
theorem d_L_law_196 : decode b_L_law 196 = .ok (.iload_n 3, 1) := by decide +kernel
theorem d_L_law_197 : decode b_L_law 197 = .ok (.iconst 4, 1) := by decide +kernel
theorem d_L_law_198 : decode b_L_law 198 = .ok (.iadd, 1) := by decide +kernel
theorem d_L_law_199 : decode b_L_law 199 = .ok (.iaload, 1) := by decide +kernel
theorem d_L_law_200 : decode b_L_law 200 = .ok (.invokevirtual 22, 3) := by decide +kernel
theorem d_L_law_203 : decode b_L_law 203 = .ok (.if_icmp .eq 404, 3) := by decide +kernel
theorem d_L_law_206 : decode b_L_law 206 = .ok (.iconst 0, 1) := by decide +kernel
theorem d_L_law_207 : decode b_L_law 207 = .ok (.ireturn, 1) := by decide +kernel
theorem d_L_law_208 : decode b_L_law 208 = .ok (.aload_n 1, 1) := by decide +kernel
theorem d_L_law_209 : decode b_L_law 209 = .ok (.aload_n 0, 1) := by decide +kernel
theorem d_L_law_210 : decode b_L_law 210 = .ok (.iload_n 3, 1) := by decide +kernel
theorem d_L_law_211 : decode b_L_law 211 = .ok (.iconst 1, 1) := by decide +kernel
theorem d_L_law_212 : decode b_L_law 212 = .ok (.iadd, 1) := by decide +kernel
theorem d_L_law_213 : decode b_L_law 213 = .ok (.iaload, 1) := by decide +kernel
theorem d_L_law_214 : decode b_L_law 214 = .ok (.aload_n 0, 1) := by decide +kernel
theorem d_L_law_215 : decode b_L_law 215 = .ok (.iload_n 3, 1) := by decide +kernel
theorem d_L_law_216 : decode b_L_law 216 = .ok (.iconst 2, 1) := by decide +kernel
theorem d_L_law_217 : decode b_L_law 217 = .ok (.iadd, 1) := by decide +kernel
theorem d_L_law_218 : decode b_L_law 218 = .ok (.iaload, 1) := by decide +kernel
theorem d_L_law_219 : decode b_L_law 219 = .ok (.invokevirtual 23, 3) := by decide +kernel
theorem d_L_law_222 : decode b_L_law 222 = .ok (.aload_n 2, 1) := by decide +kernel
theorem d_L_law_223 : decode b_L_law 223 = .ok (.aload_n 0, 1) := by decide +kernel
theorem d_L_law_224 : decode b_L_law 224 = .ok (.iload_n 3, 1) := by decide +kernel
theorem d_L_law_225 : decode b_L_law 225 = .ok (.iconst 1, 1) := by decide +kernel
theorem d_L_law_226 : decode b_L_law 226 = .ok (.iadd, 1) := by decide +kernel
theorem d_L_law_227 : decode b_L_law 227 = .ok (.iaload, 1) := by decide +kernel
theorem d_L_law_228 : decode b_L_law 228 = .ok (.aload_n 0, 1) := by decide +kernel
theorem d_L_law_229 : decode b_L_law 229 = .ok (.iload_n 3, 1) := by decide +kernel
theorem d_L_law_230 : decode b_L_law 230 = .ok (.iconst 2, 1) := by decide +kernel
theorem d_L_law_231 : decode b_L_law 231 = .ok (.iadd, 1) := by decide +kernel
theorem d_L_law_232 : decode b_L_law 232 = .ok (.iaload, 1) := by decide +kernel
theorem d_L_law_233 : decode b_L_law 233 = .ok (.invokevirtual 27, 3) := by decide +kernel
theorem d_L_law_236 : decode b_L_law 236 = .ok (.lcmp, 1) := by decide +kernel
theorem d_L_law_237 : decode b_L_law 237 = .ok (.ifCond .eq 370, 3) := by decide +kernel
theorem d_L_law_240 : decode b_L_law 240 = .ok (.iconst 0, 1) := by decide +kernel
theorem d_L_law_241 : decode b_L_law 241 = .ok (.ireturn, 1) := by decide +kernel
theorem d_L_law_242 : decode b_L_law 242 = .ok (.aload_n 1, 1) := by decide +kernel
theorem d_L_law_243 : decode b_L_law 243 = .ok (.aload_n 0, 1) := by decide +kernel
theorem d_L_law_244 : decode b_L_law 244 = .ok (.iload_n 3, 1) := by decide +kernel
theorem d_L_law_245 : decode b_L_law 245 = .ok (.iconst 1, 1) := by decide +kernel
theorem d_L_law_246 : decode b_L_law 246 = .ok (.iadd, 1) := by decide +kernel
theorem d_L_law_247 : decode b_L_law 247 = .ok (.iaload, 1) := by decide +kernel
theorem d_L_law_248 : decode b_L_law 248 = .ok (.aload_n 0, 1) := by decide +kernel
theorem d_L_law_249 : decode b_L_law 249 = .ok (.iload_n 3, 1) := by decide +kernel
theorem d_L_law_250 : decode b_L_law 250 = .ok (.iconst 2, 1) := by decide +kernel
theorem d_L_law_251 : decode b_L_law 251 = .ok (.iadd, 1) := by decide +kernel
theorem d_L_law_252 : decode b_L_law 252 = .ok (.iaload, 1) := by decide +kernel
theorem d_L_law_253 : decode b_L_law 253 = .ok (.aload_n 0, 1) := by decide +kernel
theorem d_L_law_254 : decode b_L_law 254 = .ok (.iload_n 3, 1) := by decide +kernel
theorem d_L_law_255 : decode b_L_law 255 = .ok (.iconst 3, 1) := by decide +kernel
theorem d_L_law_256 : decode b_L_law 256 = .ok (.iadd, 1) := by decide +kernel
theorem d_L_law_257 : decode b_L_law 257 = .ok (.iaload, 1) := by decide +kernel
theorem d_L_law_258 : decode b_L_law 258 = .ok (.invokevirtual 28, 3) := by decide +kernel
theorem d_L_law_261 : decode b_L_law 261 = .ok (.aload_n 2, 1) := by decide +kernel
theorem d_L_law_262 : decode b_L_law 262 = .ok (.aload_n 0, 1) := by decide +kernel
theorem d_L_law_263 : decode b_L_law 263 = .ok (.iload_n 3, 1) := by decide +kernel
theorem d_L_law_264 : decode b_L_law 264 = .ok (.iconst 1, 1) := by decide +kernel
theorem d_L_law_265 : decode b_L_law 265 = .ok (.iadd, 1) := by decide +kernel
theorem d_L_law_266 : decode b_L_law 266 = .ok (.iaload, 1) := by decide +kernel
theorem d_L_law_267 : decode b_L_law 267 = .ok (.aload_n 0, 1) := by decide +kernel
theorem d_L_law_268 : decode b_L_law 268 = .ok (.iload_n 3, 1) := by decide +kernel
theorem d_L_law_269 : decode b_L_law 269 = .ok (.iconst 2, 1) := by decide +kernel
theorem d_L_law_270 : decode b_L_law 270 = .ok (.iadd, 1) := by decide +kernel
theorem d_L_law_271 : decode b_L_law 271 = .ok (.iaload, 1) := by decide +kernel
theorem d_L_law_272 : decode b_L_law 272 = .ok (.aload_n 0, 1) := by decide +kernel
theorem d_L_law_273 : decode b_L_law 273 = .ok (.iload_n 3, 1) := by decide +kernel
theorem d_L_law_274 : decode b_L_law 274 = .ok (.iconst 3, 1) := by decide +kernel
theorem d_L_law_275 : decode b_L_law 275 = .ok (.iadd, 1) := by decide +kernel
theorem d_L_law_276 : decode b_L_law 276 = .ok (.iaload, 1) := by decide +kernel
theorem d_L_law_277 : decode b_L_law 277 = .ok (.invokevirtual 32, 3) := by decide +kernel
theorem d_L_law_280 : decode b_L_law 280 = .ok (.if_icmp .eq 327, 3) := by decide +kernel
theorem d_L_law_283 : decode b_L_law 283 = .ok (.iconst 0, 1) := by decide +kernel
theorem d_L_law_284 : decode b_L_law 284 = .ok (.ireturn, 1) := by decide +kernel
theorem d_L_law_285 : decode b_L_law 285 = .ok (.aload_n 1, 1) := by decide +kernel
theorem d_L_law_286 : decode b_L_law 286 = .ok (.aload_n 0, 1) := by decide +kernel
theorem d_L_law_287 : decode b_L_law 287 = .ok (.iload_n 3, 1) := by decide +kernel
theorem d_L_law_288 : decode b_L_law 288 = .ok (.iconst 1, 1) := by decide +kernel
theorem d_L_law_289 : decode b_L_law 289 = .ok (.iadd, 1) := by decide +kernel
theorem d_L_law_290 : decode b_L_law 290 = .ok (.iaload, 1) := by decide +kernel
theorem d_L_law_291 : decode b_L_law 291 = .ok (.invokevirtual 33, 3) := by decide +kernel
theorem d_L_law_294 : decode b_L_law 294 = .ok (.aload_n 2, 1) := by decide +kernel
theorem d_L_law_295 : decode b_L_law 295 = .ok (.aload_n 0, 1) := by decide +kernel
theorem d_L_law_296 : decode b_L_law 296 = .ok (.iload_n 3, 1) := by decide +kernel
theorem d_L_law_297 : decode b_L_law 297 = .ok (.iconst 1, 1) := by decide +kernel
theorem d_L_law_298 : decode b_L_law 298 = .ok (.iadd, 1) := by decide +kernel
theorem d_L_law_299 : decode b_L_law 299 = .ok (.iaload, 1) := by decide +kernel
theorem d_L_law_300 : decode b_L_law 300 = .ok (.invokevirtual 37, 3) := by decide +kernel
theorem d_L_law_303 : decode b_L_law 303 = .ok (.lcmp, 1) := by decide +kernel
theorem d_L_law_304 : decode b_L_law 304 = .ok (.ifCond .eq 303, 3) := by decide +kernel
theorem d_L_law_307 : decode b_L_law 307 = .ok (.iconst 0, 1) := by decide +kernel
theorem d_L_law_308 : decode b_L_law 308 = .ok (.ireturn, 1) := by decide +kernel
theorem d_L_law_309 : decode b_L_law 309 = .ok (.aload_n 1, 1) := by decide +kernel
theorem d_L_law_310 : decode b_L_law 310 = .ok (.aload_n 0, 1) := by decide +kernel
theorem d_L_law_311 : decode b_L_law 311 = .ok (.iload_n 3, 1) := by decide +kernel
theorem d_L_law_312 : decode b_L_law 312 = .ok (.iconst 1, 1) := by decide +kernel
theorem d_L_law_313 : decode b_L_law 313 = .ok (.iadd, 1) := by decide +kernel
theorem d_L_law_314 : decode b_L_law 314 = .ok (.iaload, 1) := by decide +kernel
theorem d_L_law_315 : decode b_L_law 315 = .ok (.aload_n 0, 1) := by decide +kernel
theorem d_L_law_316 : decode b_L_law 316 = .ok (.iload_n 3, 1) := by decide +kernel
theorem d_L_law_317 : decode b_L_law 317 = .ok (.iconst 2, 1) := by decide +kernel
theorem d_L_law_318 : decode b_L_law 318 = .ok (.iadd, 1) := by decide +kernel
theorem d_L_law_319 : decode b_L_law 319 = .ok (.iaload, 1) := by decide +kernel
theorem d_L_law_320 : decode b_L_law 320 = .ok (.aload_n 0, 1) := by decide +kernel
theorem d_L_law_321 : decode b_L_law 321 = .ok (.iload_n 3, 1) := by decide +kernel
theorem d_L_law_322 : decode b_L_law 322 = .ok (.iconst 3, 1) := by decide +kernel
theorem d_L_law_323 : decode b_L_law 323 = .ok (.iadd, 1) := by decide +kernel
theorem d_L_law_324 : decode b_L_law 324 = .ok (.iaload, 1) := by decide +kernel
theorem d_L_law_325 : decode b_L_law 325 = .ok (.aload_n 0, 1) := by decide +kernel
theorem d_L_law_326 : decode b_L_law 326 = .ok (.iload_n 3, 1) := by decide +kernel
theorem d_L_law_327 : decode b_L_law 327 = .ok (.iconst 4, 1) := by decide +kernel
theorem d_L_law_328 : decode b_L_law 328 = .ok (.iadd, 1) := by decide +kernel
theorem d_L_law_329 : decode b_L_law 329 = .ok (.iaload, 1) := by decide +kernel
theorem d_L_law_330 : decode b_L_law 330 = .ok (.invokevirtual 38, 3) := by decide +kernel
theorem d_L_law_333 : decode b_L_law 333 = .ok (.aload_n 2, 1) := by decide +kernel
theorem d_L_law_334 : decode b_L_law 334 = .ok (.aload_n 0, 1) := by decide +kernel
theorem d_L_law_335 : decode b_L_law 335 = .ok (.iload_n 3, 1) := by decide +kernel
theorem d_L_law_336 : decode b_L_law 336 = .ok (.iconst 1, 1) := by decide +kernel
theorem d_L_law_337 : decode b_L_law 337 = .ok (.iadd, 1) := by decide +kernel
theorem d_L_law_338 : decode b_L_law 338 = .ok (.iaload, 1) := by decide +kernel
theorem d_L_law_339 : decode b_L_law 339 = .ok (.aload_n 0, 1) := by decide +kernel
theorem d_L_law_340 : decode b_L_law 340 = .ok (.iload_n 3, 1) := by decide +kernel
theorem d_L_law_341 : decode b_L_law 341 = .ok (.iconst 2, 1) := by decide +kernel
theorem d_L_law_342 : decode b_L_law 342 = .ok (.iadd, 1) := by decide +kernel
theorem d_L_law_343 : decode b_L_law 343 = .ok (.iaload, 1) := by decide +kernel
theorem d_L_law_344 : decode b_L_law 344 = .ok (.aload_n 0, 1) := by decide +kernel
theorem d_L_law_345 : decode b_L_law 345 = .ok (.iload_n 3, 1) := by decide +kernel
theorem d_L_law_346 : decode b_L_law 346 = .ok (.iconst 3, 1) := by decide +kernel
theorem d_L_law_347 : decode b_L_law 347 = .ok (.iadd, 1) := by decide +kernel
theorem d_L_law_348 : decode b_L_law 348 = .ok (.iaload, 1) := by decide +kernel
theorem d_L_law_349 : decode b_L_law 349 = .ok (.aload_n 0, 1) := by decide +kernel
theorem d_L_law_350 : decode b_L_law 350 = .ok (.iload_n 3, 1) := by decide +kernel
theorem d_L_law_351 : decode b_L_law 351 = .ok (.iconst 4, 1) := by decide +kernel
theorem d_L_law_352 : decode b_L_law 352 = .ok (.iadd, 1) := by decide +kernel
theorem d_L_law_353 : decode b_L_law 353 = .ok (.iaload, 1) := by decide +kernel
theorem d_L_law_354 : decode b_L_law 354 = .ok (.invokevirtual 41, 3) := by decide +kernel
theorem d_L_law_357 : decode b_L_law 357 = .ok (.if_icmp .eq 250, 3) := by decide +kernel
theorem d_L_law_360 : decode b_L_law 360 = .ok (.iconst 0, 1) := by decide +kernel
theorem d_L_law_361 : decode b_L_law 361 = .ok (.ireturn, 1) := by decide +kernel
theorem d_L_law_362 : decode b_L_law 362 = .ok (.aload_n 1, 1) := by decide +kernel
theorem d_L_law_363 : decode b_L_law 363 = .ok (.aload_n 0, 1) := by decide +kernel
theorem d_L_law_364 : decode b_L_law 364 = .ok (.iload_n 3, 1) := by decide +kernel
theorem d_L_law_365 : decode b_L_law 365 = .ok (.iconst 1, 1) := by decide +kernel
theorem d_L_law_366 : decode b_L_law 366 = .ok (.iadd, 1) := by decide +kernel
theorem d_L_law_367 : decode b_L_law 367 = .ok (.iaload, 1) := by decide +kernel
theorem d_L_law_368 : decode b_L_law 368 = .ok (.aload_n 0, 1) := by decide +kernel
theorem d_L_law_369 : decode b_L_law 369 = .ok (.iload_n 3, 1) := by decide +kernel
theorem d_L_law_370 : decode b_L_law 370 = .ok (.iconst 2, 1) := by decide +kernel
theorem d_L_law_371 : decode b_L_law 371 = .ok (.iadd, 1) := by decide +kernel
theorem d_L_law_372 : decode b_L_law 372 = .ok (.iaload, 1) := by decide +kernel
theorem d_L_law_373 : decode b_L_law 373 = .ok (.invokevirtual 42, 3) := by decide +kernel
theorem d_L_law_376 : decode b_L_law 376 = .ok (.aload_n 2, 1) := by decide +kernel
theorem d_L_law_377 : decode b_L_law 377 = .ok (.aload_n 0, 1) := by decide +kernel
theorem d_L_law_378 : decode b_L_law 378 = .ok (.iload_n 3, 1) := by decide +kernel
theorem d_L_law_379 : decode b_L_law 379 = .ok (.iconst 1, 1) := by decide +kernel
theorem d_L_law_380 : decode b_L_law 380 = .ok (.iadd, 1) := by decide +kernel
theorem d_L_law_381 : decode b_L_law 381 = .ok (.iaload, 1) := by decide +kernel
theorem d_L_law_382 : decode b_L_law 382 = .ok (.aload_n 0, 1) := by decide +kernel
theorem d_L_law_383 : decode b_L_law 383 = .ok (.iload_n 3, 1) := by decide +kernel
theorem d_L_law_384 : decode b_L_law 384 = .ok (.iconst 2, 1) := by decide +kernel
theorem d_L_law_385 : decode b_L_law 385 = .ok (.iadd, 1) := by decide +kernel
theorem d_L_law_386 : decode b_L_law 386 = .ok (.iaload, 1) := by decide +kernel
theorem d_L_law_387 : decode b_L_law 387 = .ok (.invokevirtual 45, 3) := by decide +kernel
theorem d_L_law_390 : decode b_L_law 390 = .ok (.lcmp, 1) := by decide +kernel
theorem d_L_law_391 : decode b_L_law 391 = .ok (.ifCond .eq 216, 3) := by decide +kernel
theorem d_L_law_394 : decode b_L_law 394 = .ok (.iconst 0, 1) := by decide +kernel
theorem d_L_law_395 : decode b_L_law 395 = .ok (.ireturn, 1) := by decide +kernel
theorem d_L_law_396 : decode b_L_law 396 = .ok (.aload_n 1, 1) := by decide +kernel
theorem d_L_law_397 : decode b_L_law 397 = .ok (.aload_n 0, 1) := by decide +kernel
theorem d_L_law_398 : decode b_L_law 398 = .ok (.iload_n 3, 1) := by decide +kernel
theorem d_L_law_399 : decode b_L_law 399 = .ok (.iconst 1, 1) := by decide +kernel
theorem d_L_law_400 : decode b_L_law 400 = .ok (.iadd, 1) := by decide +kernel
theorem d_L_law_401 : decode b_L_law 401 = .ok (.iaload, 1) := by decide +kernel
theorem d_L_law_402 : decode b_L_law 402 = .ok (.aload_n 0, 1) := by decide +kernel
theorem d_L_law_403 : decode b_L_law 403 = .ok (.iload_n 3, 1) := by decide +kernel
theorem d_L_law_404 : decode b_L_law 404 = .ok (.iconst 2, 1) := by decide +kernel
theorem d_L_law_405 : decode b_L_law 405 = .ok (.iadd, 1) := by decide +kernel
theorem d_L_law_406 : decode b_L_law 406 = .ok (.iaload, 1) := by decide +kernel
theorem d_L_law_407 : decode b_L_law 407 = .ok (.aload_n 0, 1) := by decide +kernel
theorem d_L_law_408 : decode b_L_law 408 = .ok (.iload_n 3, 1) := by decide +kernel
theorem d_L_law_409 : decode b_L_law 409 = .ok (.iconst 3, 1) := by decide +kernel
theorem d_L_law_410 : decode b_L_law 410 = .ok (.iadd, 1) := by decide +kernel
theorem d_L_law_411 : decode b_L_law 411 = .ok (.iaload, 1) := by decide +kernel
theorem d_L_law_412 : decode b_L_law 412 = .ok (.invokevirtual 46, 3) := by decide +kernel
theorem d_L_law_415 : decode b_L_law 415 = .ok (.aload_n 2, 1) := by decide +kernel
theorem d_L_law_416 : decode b_L_law 416 = .ok (.aload_n 0, 1) := by decide +kernel
theorem d_L_law_417 : decode b_L_law 417 = .ok (.iload_n 3, 1) := by decide +kernel
theorem d_L_law_418 : decode b_L_law 418 = .ok (.iconst 1, 1) := by decide +kernel
theorem d_L_law_419 : decode b_L_law 419 = .ok (.iadd, 1) := by decide +kernel
theorem d_L_law_420 : decode b_L_law 420 = .ok (.iaload, 1) := by decide +kernel
theorem d_L_law_421 : decode b_L_law 421 = .ok (.aload_n 0, 1) := by decide +kernel
theorem d_L_law_422 : decode b_L_law 422 = .ok (.iload_n 3, 1) := by decide +kernel
theorem d_L_law_423 : decode b_L_law 423 = .ok (.iconst 2, 1) := by decide +kernel
theorem d_L_law_424 : decode b_L_law 424 = .ok (.iadd, 1) := by decide +kernel
theorem d_L_law_425 : decode b_L_law 425 = .ok (.iaload, 1) := by decide +kernel
theorem d_L_law_426 : decode b_L_law 426 = .ok (.aload_n 0, 1) := by decide +kernel
theorem d_L_law_427 : decode b_L_law 427 = .ok (.iload_n 3, 1) := by decide +kernel
theorem d_L_law_428 : decode b_L_law 428 = .ok (.iconst 3, 1) := by decide +kernel
theorem d_L_law_429 : decode b_L_law 429 = .ok (.iadd, 1) := by decide +kernel
theorem d_L_law_430 : decode b_L_law 430 = .ok (.iaload, 1) := by decide +kernel
theorem d_L_law_431 : decode b_L_law 431 = .ok (.invokevirtual 49, 3) := by decide +kernel
theorem d_L_law_434 : decode b_L_law 434 = .ok (.if_icmp .eq 173, 3) := by decide +kernel
theorem d_L_law_437 : decode b_L_law 437 = .ok (.iconst 0, 1) := by decide +kernel
theorem d_L_law_438 : decode b_L_law 438 = .ok (.ireturn, 1) := by decide +kernel
theorem d_L_law_439 : decode b_L_law 439 = .ok (.aload_n 1, 1) := by decide +kernel
theorem d_L_law_440 : decode b_L_law 440 = .ok (.aload_n 0, 1) := by decide +kernel
theorem d_L_law_441 : decode b_L_law 441 = .ok (.iload_n 3, 1) := by decide +kernel
theorem d_L_law_442 : decode b_L_law 442 = .ok (.iconst 1, 1) := by decide +kernel
theorem d_L_law_443 : decode b_L_law 443 = .ok (.iadd, 1) := by decide +kernel
theorem d_L_law_444 : decode b_L_law 444 = .ok (.iaload, 1) := by decide +kernel
theorem d_L_law_445 : decode b_L_law 445 = .ok (.invokevirtual 50, 3) := by decide +kernel
theorem d_L_law_448 : decode b_L_law 448 = .ok (.aload_n 2, 1) := by decide +kernel
theorem d_L_law_449 : decode b_L_law 449 = .ok (.aload_n 0, 1) := by decide +kernel
theorem d_L_law_450 : decode b_L_law 450 = .ok (.iload_n 3, 1) := by decide +kernel
theorem d_L_law_451 : decode b_L_law 451 = .ok (.iconst 1, 1) := by decide +kernel
theorem d_L_law_452 : decode b_L_law 452 = .ok (.iadd, 1) := by decide +kernel
theorem d_L_law_453 : decode b_L_law 453 = .ok (.iaload, 1) := by decide +kernel
theorem d_L_law_454 : decode b_L_law 454 = .ok (.invokevirtual 53, 3) := by decide +kernel
theorem d_L_law_457 : decode b_L_law 457 = .ok (.lcmp, 1) := by decide +kernel
theorem d_L_law_458 : decode b_L_law 458 = .ok (.ifCond .eq 149, 3) := by decide +kernel
theorem d_L_law_461 : decode b_L_law 461 = .ok (.iconst 0, 1) := by decide +kernel
theorem d_L_law_462 : decode b_L_law 462 = .ok (.ireturn, 1) := by decide +kernel
theorem d_L_law_463 : decode b_L_law 463 = .ok (.aload_n 1, 1) := by decide +kernel
theorem d_L_law_464 : decode b_L_law 464 = .ok (.invokevirtual 54, 3) := by decide +kernel
theorem d_L_law_467 : decode b_L_law 467 = .ok (.aload_n 2, 1) := by decide +kernel
theorem d_L_law_468 : decode b_L_law 468 = .ok (.invokevirtual 58, 3) := by decide +kernel
theorem d_L_law_471 : decode b_L_law 471 = .ok (.if_icmp .eq 136, 3) := by decide +kernel
theorem d_L_law_474 : decode b_L_law 474 = .ok (.iconst 0, 1) := by decide +kernel
theorem d_L_law_475 : decode b_L_law 475 = .ok (.ireturn, 1) := by decide +kernel
theorem d_L_law_476 : decode b_L_law 476 = .ok (.aload_n 1, 1) := by decide +kernel
theorem d_L_law_477 : decode b_L_law 477 = .ok (.invokevirtual 59, 3) := by decide +kernel
theorem d_L_law_480 : decode b_L_law 480 = .ok (.aload_n 2, 1) := by decide +kernel
theorem d_L_law_481 : decode b_L_law 481 = .ok (.invokevirtual 62, 3) := by decide +kernel
theorem d_L_law_484 : decode b_L_law 484 = .ok (.if_icmp .eq 123, 3) := by decide +kernel
theorem d_L_law_487 : decode b_L_law 487 = .ok (.iconst 0, 1) := by decide +kernel
theorem d_L_law_488 : decode b_L_law 488 = .ok (.ireturn, 1) := by decide +kernel
theorem d_L_law_489 : decode b_L_law 489 = .ok (.aload_n 1, 1) := by decide +kernel
theorem d_L_law_490 : decode b_L_law 490 = .ok (.invokevirtual 63, 3) := by decide +kernel
theorem d_L_law_493 : decode b_L_law 493 = .ok (.aload_n 2, 1) := by decide +kernel
theorem d_L_law_494 : decode b_L_law 494 = .ok (.invokevirtual 66, 3) := by decide +kernel
theorem d_L_law_497 : decode b_L_law 497 = .ok (.if_icmp .eq 110, 3) := by decide +kernel
theorem d_L_law_500 : decode b_L_law 500 = .ok (.iconst 0, 1) := by decide +kernel
theorem d_L_law_501 : decode b_L_law 501 = .ok (.ireturn, 1) := by decide +kernel
theorem d_L_law_502 : decode b_L_law 502 = .ok (.aload_n 1, 1) := by decide +kernel
theorem d_L_law_503 : decode b_L_law 503 = .ok (.invokevirtual 67, 3) := by decide +kernel
theorem d_L_law_506 : decode b_L_law 506 = .ok (.aload_n 2, 1) := by decide +kernel
theorem d_L_law_507 : decode b_L_law 507 = .ok (.invokevirtual 70, 3) := by decide +kernel
theorem d_L_law_510 : decode b_L_law 510 = .ok (.if_icmp .eq 97, 3) := by decide +kernel
theorem d_L_law_513 : decode b_L_law 513 = .ok (.iconst 0, 1) := by decide +kernel
theorem d_L_law_514 : decode b_L_law 514 = .ok (.ireturn, 1) := by decide +kernel
theorem d_L_law_515 : decode b_L_law 515 = .ok (.aload_n 1, 1) := by decide +kernel
theorem d_L_law_516 : decode b_L_law 516 = .ok (.aload_n 0, 1) := by decide +kernel
theorem d_L_law_517 : decode b_L_law 517 = .ok (.iload_n 3, 1) := by decide +kernel
theorem d_L_law_518 : decode b_L_law 518 = .ok (.iconst 1, 1) := by decide +kernel
theorem d_L_law_519 : decode b_L_law 519 = .ok (.iadd, 1) := by decide +kernel
theorem d_L_law_520 : decode b_L_law 520 = .ok (.iaload, 1) := by decide +kernel
theorem d_L_law_521 : decode b_L_law 521 = .ok (.invokevirtual 71, 3) := by decide +kernel
theorem d_L_law_524 : decode b_L_law 524 = .ok (.aload_n 2, 1) := by decide +kernel
theorem d_L_law_525 : decode b_L_law 525 = .ok (.aload_n 0, 1) := by decide +kernel
theorem d_L_law_526 : decode b_L_law 526 = .ok (.iload_n 3, 1) := by decide +kernel
theorem d_L_law_527 : decode b_L_law 527 = .ok (.iconst 1, 1) := by decide +kernel
theorem d_L_law_528 : decode b_L_law 528 = .ok (.iadd, 1) := by decide +kernel
theorem d_L_law_529 : decode b_L_law 529 = .ok (.iaload, 1) := by decide +kernel
theorem d_L_law_530 : decode b_L_law 530 = .ok (.invokevirtual 75, 3) := by decide +kernel
theorem d_L_law_533 : decode b_L_law 533 = .ok (.if_icmp .eq 74, 3) := by decide +kernel
theorem d_L_law_536 : decode b_L_law 536 = .ok (.iconst 0, 1) := by decide +kernel
theorem d_L_law_537 : decode b_L_law 537 = .ok (.ireturn, 1) := by decide +kernel
theorem d_L_law_538 : decode b_L_law 538 = .ok (.aload_n 1, 1) := by decide +kernel
theorem d_L_law_539 : decode b_L_law 539 = .ok (.aload_n 0, 1) := by decide +kernel
theorem d_L_law_540 : decode b_L_law 540 = .ok (.iload_n 3, 1) := by decide +kernel
theorem d_L_law_541 : decode b_L_law 541 = .ok (.iconst 1, 1) := by decide +kernel
theorem d_L_law_542 : decode b_L_law 542 = .ok (.iadd, 1) := by decide +kernel
theorem d_L_law_543 : decode b_L_law 543 = .ok (.iaload, 1) := by decide +kernel
theorem d_L_law_544 : decode b_L_law 544 = .ok (.invokevirtual 76, 3) := by decide +kernel
theorem d_L_law_547 : decode b_L_law 547 = .ok (.aload_n 2, 1) := by decide +kernel
theorem d_L_law_548 : decode b_L_law 548 = .ok (.aload_n 0, 1) := by decide +kernel
theorem d_L_law_549 : decode b_L_law 549 = .ok (.iload_n 3, 1) := by decide +kernel
theorem d_L_law_550 : decode b_L_law 550 = .ok (.iconst 1, 1) := by decide +kernel
theorem d_L_law_551 : decode b_L_law 551 = .ok (.iadd, 1) := by decide +kernel
theorem d_L_law_552 : decode b_L_law 552 = .ok (.iaload, 1) := by decide +kernel
theorem d_L_law_553 : decode b_L_law 553 = .ok (.invokevirtual 79, 3) := by decide +kernel
theorem d_L_law_556 : decode b_L_law 556 = .ok (.if_icmp .eq 51, 3) := by decide +kernel
theorem d_L_law_559 : decode b_L_law 559 = .ok (.iconst 0, 1) := by decide +kernel
theorem d_L_law_560 : decode b_L_law 560 = .ok (.ireturn, 1) := by decide +kernel
theorem d_L_law_561 : decode b_L_law 561 = .ok (.aload_n 1, 1) := by decide +kernel
theorem d_L_law_562 : decode b_L_law 562 = .ok (.aload_n 0, 1) := by decide +kernel
theorem d_L_law_563 : decode b_L_law 563 = .ok (.iload_n 3, 1) := by decide +kernel
theorem d_L_law_564 : decode b_L_law 564 = .ok (.iconst 1, 1) := by decide +kernel
theorem d_L_law_565 : decode b_L_law 565 = .ok (.iadd, 1) := by decide +kernel
theorem d_L_law_566 : decode b_L_law 566 = .ok (.iaload, 1) := by decide +kernel
theorem d_L_law_567 : decode b_L_law 567 = .ok (.invokevirtual 80, 3) := by decide +kernel
theorem d_L_law_570 : decode b_L_law 570 = .ok (.aload_n 2, 1) := by decide +kernel
theorem d_L_law_571 : decode b_L_law 571 = .ok (.aload_n 0, 1) := by decide +kernel
theorem d_L_law_572 : decode b_L_law 572 = .ok (.iload_n 3, 1) := by decide +kernel
theorem d_L_law_573 : decode b_L_law 573 = .ok (.iconst 1, 1) := by decide +kernel
theorem d_L_law_574 : decode b_L_law 574 = .ok (.iadd, 1) := by decide +kernel
theorem d_L_law_575 : decode b_L_law 575 = .ok (.iaload, 1) := by decide +kernel
theorem d_L_law_576 : decode b_L_law 576 = .ok (.invokevirtual 83, 3) := by decide +kernel
theorem d_L_law_579 : decode b_L_law 579 = .ok (.if_icmp .eq 28, 3) := by decide +kernel
theorem d_L_law_582 : decode b_L_law 582 = .ok (.iconst 0, 1) := by decide +kernel
theorem d_L_law_583 : decode b_L_law 583 = .ok (.ireturn, 1) := by decide +kernel
theorem d_L_law_584 : decode b_L_law 584 = .ok (.aload_n 1, 1) := by decide +kernel
theorem d_L_law_585 : decode b_L_law 585 = .ok (.aload_n 0, 1) := by decide +kernel
theorem d_L_law_586 : decode b_L_law 586 = .ok (.iload_n 3, 1) := by decide +kernel
theorem d_L_law_587 : decode b_L_law 587 = .ok (.iconst 1, 1) := by decide +kernel
theorem d_L_law_588 : decode b_L_law 588 = .ok (.iadd, 1) := by decide +kernel
theorem d_L_law_589 : decode b_L_law 589 = .ok (.iaload, 1) := by decide +kernel
theorem d_L_law_590 : decode b_L_law 590 = .ok (.invokevirtual 84, 3) := by decide +kernel
theorem d_L_law_593 : decode b_L_law 593 = .ok (.aload_n 2, 1) := by decide +kernel
theorem d_L_law_594 : decode b_L_law 594 = .ok (.aload_n 0, 1) := by decide +kernel
theorem d_L_law_595 : decode b_L_law 595 = .ok (.iload_n 3, 1) := by decide +kernel
theorem d_L_law_596 : decode b_L_law 596 = .ok (.iconst 1, 1) := by decide +kernel
theorem d_L_law_597 : decode b_L_law 597 = .ok (.iadd, 1) := by decide +kernel
theorem d_L_law_598 : decode b_L_law 598 = .ok (.iaload, 1) := by decide +kernel
theorem d_L_law_599 : decode b_L_law 599 = .ok (.invokevirtual 87, 3) := by decide +kernel
theorem d_L_law_602 : decode b_L_law 602 = .ok (.if_icmp .eq 5, 3) := by decide +kernel
theorem d_L_law_605 : decode b_L_law 605 = .ok (.iconst 0, 1) := by decide +kernel
theorem d_L_law_606 : decode b_L_law 606 = .ok (.ireturn, 1) := by decide +kernel
theorem d_L_law_607 : decode b_L_law 607 = .ok (.iinc 3 5, 3) := by decide +kernel
theorem d_L_law_610 : decode b_L_law 610 = .ok (.goto (-592), 3) := by decide +kernel
theorem d_L_law_613 : decode b_L_law 613 = .ok (.iconst 1, 1) := by decide +kernel
theorem d_L_law_614 : decode b_L_law 614 = .ok (.ireturn, 1) := by decide +kernel
