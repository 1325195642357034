theorem dl_242 : decode code 242 = .ok (.invokevirtual 28, 3) := by decide +kernel
theorem dl_245 : decode code 245 = .ok (.pop, 1) := by decide +kernel
theorem dl_246 : decode code 246 = .ok (.goto 473, 3) := by decide +kernel
theorem dl_249 : decode code 249 = .ok (.aload_n 1, 1) := by decide +kernel
theorem dl_250 : decode code 250 = .ok (.aload_n 0, 1) := by decide +kernel
theorem dl_251 : decode code 251 = .ok (.iload_n 3, 1) := by decide +kernel
theorem dl_252 : decode code 252 = .ok (.iconst 1, 1) := by decide +kernel
theorem dl_253 : decode code 253 = .ok (.iadd, 1) := by decide +kernel
theorem dl_254 : decode code 254 = .ok (.iaload, 1) := by decide +kernel
theorem dl_255 : decode code 255 = .ok (.invokevirtual 29, 3) := by decide +kernel
theorem dl_258 : decode code 258 = .ok (.pop, 1) := by decide +kernel
theorem dl_259 : decode code 259 = .ok (.aload_n 2, 1) := by decide +kernel
theorem dl_260 : decode code 260 = .ok (.aload_n 0, 1) := by decide +kernel
theorem dl_261 : decode code 261 = .ok (.iload_n 3, 1) := by decide +kernel
theorem dl_262 : decode code 262 = .ok (.iconst 1, 1) := by decide +kernel
theorem dl_263 : decode code 263 = .ok (.iadd, 1) := by decide +kernel
theorem dl_264 : decode code 264 = .ok (.iaload, 1) := by decide +kernel
theorem dl_265 : decode code 265 = .ok (.invokevirtual 32, 3) := by decide +kernel
theorem dl_268 : decode code 268 = .ok (.pop, 1) := by decide +kernel
theorem dl_269 : decode code 269 = .ok (.goto 450, 3) := by decide +kernel
theorem dl_272 : decode code 272 = .ok (.aload_n 1, 1) := by decide +kernel
theorem dl_273 : decode code 273 = .ok (.aload_n 0, 1) := by decide +kernel
theorem dl_274 : decode code 274 = .ok (.iload_n 3, 1) := by decide +kernel
theorem dl_275 : decode code 275 = .ok (.iconst 1, 1) := by decide +kernel
theorem dl_276 : decode code 276 = .ok (.iadd, 1) := by decide +kernel
theorem dl_277 : decode code 277 = .ok (.iaload, 1) := by decide +kernel
theorem dl_278 : decode code 278 = .ok (.invokevirtual 33, 3) := by decide +kernel
theorem dl_281 : decode code 281 = .ok (.pop, 1) := by decide +kernel
theorem dl_282 : decode code 282 = .ok (.aload_n 2, 1) := by decide +kernel
theorem dl_283 : decode code 283 = .ok (.aload_n 0, 1) := by decide +kernel
theorem dl_284 : decode code 284 = .ok (.iload_n 3, 1) := by decide +kernel
theorem dl_285 : decode code 285 = .ok (.iconst 1, 1) := by decide +kernel
theorem dl_286 : decode code 286 = .ok (.iadd, 1) := by decide +kernel
theorem dl_287 : decode code 287 = .ok (.iaload, 1) := by decide +kernel
theorem dl_288 : decode code 288 = .ok (.invokevirtual 36, 3) := by decide +kernel
theorem dl_291 : decode code 291 = .ok (.pop, 1) := by decide +kernel
theorem dl_292 : decode code 292 = .ok (.goto 427, 3) := by decide +kernel
theorem dl_295 : decode code 295 = .ok (.aload_n 1, 1) := by decide +kernel
theorem dl_296 : decode code 296 = .ok (.aload_n 0, 1) := by decide +kernel
theorem dl_297 : decode code 297 = .ok (.iload_n 3, 1) := by decide +kernel
theorem dl_298 : decode code 298 = .ok (.iconst 1, 1) := by decide +kernel
theorem dl_299 : decode code 299 = .ok (.iadd, 1) := by decide +kernel
theorem dl_300 : decode code 300 = .ok (.iaload, 1) := by decide +kernel
theorem dl_301 : decode code 301 = .ok (.aload_n 0, 1) := by decide +kernel
theorem dl_302 : decode code 302 = .ok (.iload_n 3, 1) := by decide +kernel
theorem dl_303 : decode code 303 = .ok (.iconst 2, 1) := by decide +kernel
theorem dl_304 : decode code 304 = .ok (.iadd, 1) := by decide +kernel
theorem dl_305 : decode code 305 = .ok (.iaload, 1) := by decide +kernel
theorem dl_306 : decode code 306 = .ok (.invokevirtual 37, 3) := by decide +kernel
theorem dl_309 : decode code 309 = .ok (.pop, 1) := by decide +kernel
theorem dl_310 : decode code 310 = .ok (.aload_n 2, 1) := by decide +kernel
theorem dl_311 : decode code 311 = .ok (.aload_n 0, 1) := by decide +kernel
