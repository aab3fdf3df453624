/-! The law, a row a case: those that change what is alike, or compare -/
theorem sub_fE_fA : ∀ t k, fA t k = false → fE t k = false := by
  intro t k h
  simp [fE, fA] at h ⊢ <;> omega
theorem sub_fT1_fA : ∀ t k, fA t k = false → fT1 t k = false := by
  intro t k h
  simp [fT1, fA] at h ⊢ <;> omega
theorem sub_gAp_fA : ∀ t k, fA t k = false → gAp t k = false := by
  intro t k h
  simp [gAp, fA] at h ⊢ <;> omega
theorem sub_gLd_fA : ∀ t k, fA t k = false → gLd t k = false := by
  intro t k h
  simp [gLd, fA] at h ⊢ <;> omega
theorem sub_gR_fA : ∀ t k, fA t k = false → gR t k = false := by
  intro t k h
  simp [gR, fA] at h ⊢ <;> omega
theorem sub_gS_fA : ∀ t k, fA t k = false → gS t k = false := by
  intro t k h
  simp [gS, fA] at h ⊢ <;> omega
theorem sub_gXs_fA : ∀ t k, fA t k = false → gXs t k = false := by
  intro t k h
  simp [gXs, fA] at h ⊢ <;> omega
theorem sub_gZb_fA : ∀ t k, fA t k = false → gZb t k = false := by
  intro t k h
  simp [gZb, fA] at h ⊢ <;> omega
theorem sub_hfCp_fA : ∀ t k, fA t k = false → hfCp t k = false := by
  intro t k h
  simp [hfCp, fA] at h ⊢ <;> omega
theorem sub_hfCv_fA : ∀ t k, fA t k = false → hfCv t k = false := by
  intro t k h
  simp [hfCv, fA] at h ⊢ <;> omega
theorem sub_hfLd_fA : ∀ t k, fA t k = false → hfLd t k = false := by
  intro t k h
  simp [hfLd, fA] at h ⊢ <;> omega
theorem sub_hfSv_fA : ∀ t k, fA t k = false → hfSv t k = false := by
  intro t k h
  simp [hfSv, fA] at h ⊢ <;> omega
theorem k83 : Cond.initialized RL ∈ GW := gm 83 (by decide +kernel) (by decide +kernel)
theorem k411 : Cond.methodLink RL 116 yX5_append ∈ GW := gm 411 (by decide +kernel) (by decide +kernel)
theorem k412 : Cond.instanceMethod yX5_append ∈ GW := gm 412 (by decide +kernel) (by decide +kernel)
theorem k413 : Cond.selects RX5 yX5_append yX5_append ∈ GW := gm 413 (by decide +kernel) (by decide +kernel)
theorem k414 : Cond.code yX5_append cX5_append 6 (some .int) ∈ GW := gm 414 (by decide +kernel) (by decide +kernel)
theorem k423 : Cond.methodLink RL 131 yX5_errorCode ∈ GW := gm 423 (by decide +kernel) (by decide +kernel)
theorem k424 : Cond.instanceMethod yX5_errorCode ∈ GW := gm 424 (by decide +kernel) (by decide +kernel)
theorem k425 : Cond.selects RX5 yX5_errorCode yX5_errorCode ∈ GW := gm 425 (by decide +kernel) (by decide +kernel)
theorem k426 : Cond.code yX5_errorCode cX5_errorCode 1 (some .int) ∈ GW := gm 426 (by decide +kernel) (by decide +kernel)
theorem k427 : Cond.methodLink RL 135 yX5_errorPosition ∈ GW := gm 427 (by decide +kernel) (by decide +kernel)
theorem k428 : Cond.instanceMethod yX5_errorPosition ∈ GW := gm 428 (by decide +kernel) (by decide +kernel)
theorem k429 : Cond.selects RX5 yX5_errorPosition yX5_errorPosition ∈ GW := gm 429 (by decide +kernel) (by decide +kernel)
theorem k430 : Cond.code yX5_errorPosition cX5_errorPosition 1 (some .int) ∈ GW := gm 430 (by decide +kernel) (by decide +kernel)
theorem k681 : Cond.methodLink RL 127 yL_load ∈ GW := gm 681 (by decide +kernel) (by decide +kernel)
theorem k682 : Cond.static yL_load ∈ GW := gm 682 (by decide +kernel) (by decide +kernel)
theorem k683 : Cond.codeWith yL_load cL_load 3 (some .int) [(0, 8, 11, 19)] ∈ GW := gm 683 (by decide +kernel) (by decide +kernel)
theorem k1175 : Cond.methodLink RL 241 yL_bitsBy ∈ GW := gm 1175 (by decide +kernel) (by decide +kernel)
theorem k1176 : Cond.static yL_bitsBy ∈ GW := gm 1176 (by decide +kernel) (by decide +kernel)
theorem k1177 : Cond.codeWith yL_bitsBy cL_bitsBy 5 (some .int) [(0, 10, 13, 19)] ∈ GW := gm 1177 (by decide +kernel) (by decide +kernel)
theorem k1189 : Cond.methodLink RL 258 yL_save ∈ GW := gm 1189 (by decide +kernel) (by decide +kernel)
theorem k1190 : Cond.static yL_save ∈ GW := gm 1190 (by decide +kernel) (by decide +kernel)
theorem k1191 : Cond.codeWith yL_save cL_save 3 (some .int) [(0, 5, 8, 13)] ∈ GW := gm 1191 (by decide +kernel) (by decide +kernel)
theorem k1196 : Cond.methodLink RL 262 yL_restore ∈ GW := gm 1196 (by decide +kernel) (by decide +kernel)
theorem k1197 : Cond.static yL_restore ∈ GW := gm 1197 (by decide +kernel) (by decide +kernel)
theorem k1198 : Cond.codeWith yL_restore cL_restore 3 (some .int) [(0, 5, 8, 13), (0, 5, 11, 51)] ∈ GW := gm 1198 (by decide +kernel) (by decide +kernel)
theorem k1301 : Cond.methodLink RL 244 yX6_thrown ∈ GW := gm 1301 (by decide +kernel) (by decide +kernel)
theorem k1302 : Cond.instanceMethod yX6_thrown ∈ GW := gm 1302 (by decide +kernel) (by decide +kernel)
theorem k1303 : Cond.selects RX6 yX6_thrown yX6_thrown ∈ GW := gm 1303 (by decide +kernel) (by decide +kernel)
theorem k1304 : Cond.code yX6_thrown cX6_thrown 1 (some .int) ∈ GW := gm 1304 (by decide +kernel) (by decide +kernel)
theorem k1305 : Cond.methodLink RL 120 yX6_append ∈ GW := gm 1305 (by decide +kernel) (by decide +kernel)
theorem k1306 : Cond.instanceMethod yX6_append ∈ GW := gm 1306 (by decide +kernel) (by decide +kernel)
theorem k1307 : Cond.selects RX6 yX6_append yX6_append ∈ GW := gm 1307 (by decide +kernel) (by decide +kernel)
theorem k1308 : Cond.code yX6_append cX6_append 6 (some .int) ∈ GW := gm 1308 (by decide +kernel) (by decide +kernel)
theorem k1324 : Cond.methodLink RL 130 yX6_load ∈ GW := gm 1324 (by decide +kernel) (by decide +kernel)
theorem k1325 : Cond.instanceMethod yX6_load ∈ GW := gm 1325 (by decide +kernel) (by decide +kernel)
theorem k1326 : Cond.selects RX6 yX6_load yX6_load ∈ GW := gm 1326 (by decide +kernel) (by decide +kernel)
theorem k1327 : Cond.code yX6_load cX6_load 1 (some .int) ∈ GW := gm 1327 (by decide +kernel) (by decide +kernel)
theorem k1399 : Cond.methodLink RL 134 yX6_errorCode ∈ GW := gm 1399 (by decide +kernel) (by decide +kernel)
theorem k1400 : Cond.instanceMethod yX6_errorCode ∈ GW := gm 1400 (by decide +kernel) (by decide +kernel)
theorem k1401 : Cond.selects RX6 yX6_errorCode yX6_errorCode ∈ GW := gm 1401 (by decide +kernel) (by decide +kernel)
theorem k1402 : Cond.code yX6_errorCode cX6_errorCode 1 (some .int) ∈ GW := gm 1402 (by decide +kernel) (by decide +kernel)
theorem k1403 : Cond.methodLink RL 138 yX6_errorPosition ∈ GW := gm 1403 (by decide +kernel) (by decide +kernel)
theorem k1404 : Cond.instanceMethod yX6_errorPosition ∈ GW := gm 1404 (by decide +kernel) (by decide +kernel)
theorem k1405 : Cond.selects RX6 yX6_errorPosition yX6_errorPosition ∈ GW := gm 1405 (by decide +kernel) (by decide +kernel)
theorem k1406 : Cond.code yX6_errorPosition cX6_errorPosition 1 (some .int) ∈ GW := gm 1406 (by decide +kernel) (by decide +kernel)
theorem k1670 : Cond.methodLink RL 243 yX6_bitsBy ∈ GW := gm 1670 (by decide +kernel) (by decide +kernel)
theorem k1671 : Cond.instanceMethod yX6_bitsBy ∈ GW := gm 1671 (by decide +kernel) (by decide +kernel)
theorem k1672 : Cond.selects RX6 yX6_bitsBy yX6_bitsBy ∈ GW := gm 1672 (by decide +kernel) (by decide +kernel)
theorem k1673 : Cond.code yX6_bitsBy cX6_bitsBy 3 (some .int) ∈ GW := gm 1673 (by decide +kernel) (by decide +kernel)
theorem k1690 : Cond.methodLink RL 261 yX6_save ∈ GW := gm 1690 (by decide +kernel) (by decide +kernel)
theorem k1691 : Cond.instanceMethod yX6_save ∈ GW := gm 1691 (by decide +kernel) (by decide +kernel)
theorem k1692 : Cond.selects RX6 yX6_save yX6_save ∈ GW := gm 1692 (by decide +kernel) (by decide +kernel)
theorem k1693 : Cond.code yX6_save cX6_save 3 none ∈ GW := gm 1693 (by decide +kernel) (by decide +kernel)
theorem k1694 : Cond.methodLink RL 264 yX6_restore ∈ GW := gm 1694 (by decide +kernel) (by decide +kernel)
theorem k1695 : Cond.instanceMethod yX6_restore ∈ GW := gm 1695 (by decide +kernel) (by decide +kernel)
theorem k1696 : Cond.selects RX6 yX6_restore yX6_restore ∈ GW := gm 1696 (by decide +kernel) (by decide +kernel)
theorem k1697 : Cond.code yX6_restore cX6_restore 3 none ∈ GW := gm 1697 (by decide +kernel) (by decide +kernel)
theorem dL_law_220 : decode cL_law 220 = .ok (.aload_n 1, 1) := by decide +kernel
theorem dL_law_221 : decode cL_law 221 = .ok (.aload_n 0, 1) := by decide +kernel
theorem dL_law_222 : decode cL_law 222 = .ok (.iload 4, 2) := by decide +kernel
theorem dL_law_224 : decode cL_law 224 = .ok (.iconst 1, 1) := by decide +kernel
theorem dL_law_225 : decode cL_law 225 = .ok (.iadd, 1) := by decide +kernel
theorem dL_law_226 : decode cL_law 226 = .ok (.iaload, 1) := by decide +kernel
theorem dL_law_227 : decode cL_law 227 = .ok (.aload_n 0, 1) := by decide +kernel
theorem dL_law_228 : decode cL_law 228 = .ok (.iload 4, 2) := by decide +kernel
theorem dL_law_230 : decode cL_law 230 = .ok (.iconst 2, 1) := by decide +kernel
theorem dL_law_231 : decode cL_law 231 = .ok (.iadd, 1) := by decide +kernel
theorem dL_law_232 : decode cL_law 232 = .ok (.iaload, 1) := by decide +kernel
theorem dL_law_233 : decode cL_law 233 = .ok (.aload_n 0, 1) := by decide +kernel
theorem dL_law_234 : decode cL_law 234 = .ok (.iload 4, 2) := by decide +kernel
theorem dL_law_236 : decode cL_law 236 = .ok (.iconst 3, 1) := by decide +kernel
theorem dL_law_237 : decode cL_law 237 = .ok (.iadd, 1) := by decide +kernel
theorem dL_law_238 : decode cL_law 238 = .ok (.iaload, 1) := by decide +kernel
theorem dL_law_239 : decode cL_law 239 = .ok (.aload_n 0, 1) := by decide +kernel
theorem dL_law_240 : decode cL_law 240 = .ok (.iload 4, 2) := by decide +kernel
theorem dL_law_242 : decode cL_law 242 = .ok (.iconst 4, 1) := by decide +kernel
theorem dL_law_243 : decode cL_law 243 = .ok (.iadd, 1) := by decide +kernel
theorem dL_law_244 : decode cL_law 244 = .ok (.iaload, 1) := by decide +kernel
theorem dL_law_245 : decode cL_law 245 = .ok (.aload_n 0, 1) := by decide +kernel
theorem dL_law_246 : decode cL_law 246 = .ok (.iload 4, 2) := by decide +kernel
theorem dL_law_248 : decode cL_law 248 = .ok (.iconst 5, 1) := by decide +kernel
theorem dL_law_249 : decode cL_law 249 = .ok (.iadd, 1) := by decide +kernel
theorem dL_law_250 : decode cL_law 250 = .ok (.iaload, 1) := by decide +kernel
theorem dL_law_251 : decode cL_law 251 = .ok (.invokevirtual 116, 3) := by decide +kernel
theorem dL_law_254 : decode cL_law 254 = .ok (.pop, 1) := by decide +kernel
theorem dL_law_255 : decode cL_law 255 = .ok (.aload_n 2, 1) := by decide +kernel
theorem dL_law_256 : decode cL_law 256 = .ok (.aload_n 0, 1) := by decide +kernel
theorem dL_law_257 : decode cL_law 257 = .ok (.iload 4, 2) := by decide +kernel
theorem dL_law_259 : decode cL_law 259 = .ok (.iconst 1, 1) := by decide +kernel
theorem dL_law_260 : decode cL_law 260 = .ok (.iadd, 1) := by decide +kernel
theorem dL_law_261 : decode cL_law 261 = .ok (.iaload, 1) := by decide +kernel
theorem dL_law_262 : decode cL_law 262 = .ok (.aload_n 0, 1) := by decide +kernel
theorem dL_law_263 : decode cL_law 263 = .ok (.iload 4, 2) := by decide +kernel
theorem dL_law_265 : decode cL_law 265 = .ok (.iconst 2, 1) := by decide +kernel
theorem dL_law_266 : decode cL_law 266 = .ok (.iadd, 1) := by decide +kernel
theorem dL_law_267 : decode cL_law 267 = .ok (.iaload, 1) := by decide +kernel
theorem dL_law_268 : decode cL_law 268 = .ok (.aload_n 0, 1) := by decide +kernel
theorem dL_law_269 : decode cL_law 269 = .ok (.iload 4, 2) := by decide +kernel
theorem dL_law_271 : decode cL_law 271 = .ok (.iconst 3, 1) := by decide +kernel
theorem dL_law_272 : decode cL_law 272 = .ok (.iadd, 1) := by decide +kernel
theorem dL_law_273 : decode cL_law 273 = .ok (.iaload, 1) := by decide +kernel
theorem dL_law_274 : decode cL_law 274 = .ok (.aload_n 0, 1) := by decide +kernel
theorem dL_law_275 : decode cL_law 275 = .ok (.iload 4, 2) := by decide +kernel
theorem dL_law_277 : decode cL_law 277 = .ok (.iconst 4, 1) := by decide +kernel
theorem dL_law_278 : decode cL_law 278 = .ok (.iadd, 1) := by decide +kernel
theorem dL_law_279 : decode cL_law 279 = .ok (.iaload, 1) := by decide +kernel
theorem dL_law_280 : decode cL_law 280 = .ok (.aload_n 0, 1) := by decide +kernel
theorem dL_law_281 : decode cL_law 281 = .ok (.iload 4, 2) := by decide +kernel
theorem dL_law_283 : decode cL_law 283 = .ok (.iconst 5, 1) := by decide +kernel
theorem dL_law_284 : decode cL_law 284 = .ok (.iadd, 1) := by decide +kernel
theorem dL_law_285 : decode cL_law 285 = .ok (.iaload, 1) := by decide +kernel
theorem dL_law_286 : decode cL_law 286 = .ok (.invokevirtual 120, 3) := by decide +kernel
theorem dL_law_289 : decode cL_law 289 = .ok (.pop, 1) := by decide +kernel
theorem dL_law_290 : decode cL_law 290 = .ok (.goto 1142, 3) := by decide +kernel
theorem dL_law_321 : decode cL_law 321 = .ok (.aload_n 1, 1) := by decide +kernel
theorem dL_law_322 : decode cL_law 322 = .ok (.aload_n 3, 1) := by decide +kernel
theorem dL_law_323 : decode cL_law 323 = .ok (.invokestatic 127, 3) := by decide +kernel
theorem dL_law_326 : decode cL_law 326 = .ok (.istore 5, 2) := by decide +kernel
theorem dL_law_328 : decode cL_law 328 = .ok (.aload_n 2, 1) := by decide +kernel
theorem dL_law_329 : decode cL_law 329 = .ok (.invokevirtual 130, 3) := by decide +kernel
theorem dL_law_332 : decode cL_law 332 = .ok (.istore 6, 2) := by decide +kernel
theorem dL_law_334 : decode cL_law 334 = .ok (.goto 1098, 3) := by decide +kernel
theorem dL_law_337 : decode cL_law 337 = .ok (.aload_n 1, 1) := by decide +kernel
theorem dL_law_338 : decode cL_law 338 = .ok (.invokevirtual 131, 3) := by decide +kernel
theorem dL_law_341 : decode cL_law 341 = .ok (.pop, 1) := by decide +kernel
theorem dL_law_342 : decode cL_law 342 = .ok (.aload_n 2, 1) := by decide +kernel
theorem dL_law_343 : decode cL_law 343 = .ok (.invokevirtual 134, 3) := by decide +kernel
theorem dL_law_346 : decode cL_law 346 = .ok (.pop, 1) := by decide +kernel
theorem dL_law_347 : decode cL_law 347 = .ok (.goto 1085, 3) := by decide +kernel
theorem dL_law_350 : decode cL_law 350 = .ok (.aload_n 1, 1) := by decide +kernel
theorem dL_law_351 : decode cL_law 351 = .ok (.invokevirtual 135, 3) := by decide +kernel
theorem dL_law_354 : decode cL_law 354 = .ok (.pop, 1) := by decide +kernel
theorem dL_law_355 : decode cL_law 355 = .ok (.aload_n 2, 1) := by decide +kernel
theorem dL_law_356 : decode cL_law 356 = .ok (.invokevirtual 138, 3) := by decide +kernel
theorem dL_law_359 : decode cL_law 359 = .ok (.pop, 1) := by decide +kernel
theorem dL_law_360 : decode cL_law 360 = .ok (.goto 1072, 3) := by decide +kernel
theorem dL_law_1260 : decode cL_law 1260 = .ok (.aload_n 1, 1) := by decide +kernel
theorem dL_law_1261 : decode cL_law 1261 = .ok (.aload_n 0, 1) := by decide +kernel
theorem dL_law_1262 : decode cL_law 1262 = .ok (.iload 4, 2) := by decide +kernel
theorem dL_law_1264 : decode cL_law 1264 = .ok (.iconst 1, 1) := by decide +kernel
theorem dL_law_1265 : decode cL_law 1265 = .ok (.iadd, 1) := by decide +kernel
theorem dL_law_1266 : decode cL_law 1266 = .ok (.iaload, 1) := by decide +kernel
theorem dL_law_1267 : decode cL_law 1267 = .ok (.aload_n 0, 1) := by decide +kernel
theorem dL_law_1268 : decode cL_law 1268 = .ok (.iload 4, 2) := by decide +kernel
theorem dL_law_1270 : decode cL_law 1270 = .ok (.iconst 2, 1) := by decide +kernel
theorem dL_law_1271 : decode cL_law 1271 = .ok (.iadd, 1) := by decide +kernel
theorem dL_law_1272 : decode cL_law 1272 = .ok (.iaload, 1) := by decide +kernel
theorem dL_law_1273 : decode cL_law 1273 = .ok (.aload_n 3, 1) := by decide +kernel
theorem dL_law_1274 : decode cL_law 1274 = .ok (.invokestatic 241, 3) := by decide +kernel
theorem dL_law_1277 : decode cL_law 1277 = .ok (.istore 5, 2) := by decide +kernel
theorem dL_law_1279 : decode cL_law 1279 = .ok (.aload_n 2, 1) := by decide +kernel
theorem dL_law_1280 : decode cL_law 1280 = .ok (.aload_n 0, 1) := by decide +kernel
theorem dL_law_1281 : decode cL_law 1281 = .ok (.iload 4, 2) := by decide +kernel
theorem dL_law_1283 : decode cL_law 1283 = .ok (.iconst 1, 1) := by decide +kernel
theorem dL_law_1284 : decode cL_law 1284 = .ok (.iadd, 1) := by decide +kernel
theorem dL_law_1285 : decode cL_law 1285 = .ok (.iaload, 1) := by decide +kernel
theorem dL_law_1286 : decode cL_law 1286 = .ok (.aload_n 0, 1) := by decide +kernel
theorem dL_law_1287 : decode cL_law 1287 = .ok (.iload 4, 2) := by decide +kernel
theorem dL_law_1289 : decode cL_law 1289 = .ok (.iconst 2, 1) := by decide +kernel
theorem dL_law_1290 : decode cL_law 1290 = .ok (.iadd, 1) := by decide +kernel
theorem dL_law_1291 : decode cL_law 1291 = .ok (.iaload, 1) := by decide +kernel
theorem dL_law_1292 : decode cL_law 1292 = .ok (.invokevirtual 243, 3) := by decide +kernel
theorem dL_law_1295 : decode cL_law 1295 = .ok (.istore 6, 2) := by decide +kernel
theorem dL_law_1297 : decode cL_law 1297 = .ok (.aload_n 2, 1) := by decide +kernel
theorem dL_law_1298 : decode cL_law 1298 = .ok (.invokevirtual 244, 3) := by decide +kernel
theorem dL_law_1301 : decode cL_law 1301 = .ok (.iload 5, 2) := by decide +kernel
theorem dL_law_1303 : decode cL_law 1303 = .ok (.if_icmp .eq 5, 3) := by decide +kernel
theorem dL_law_1308 : decode cL_law 1308 = .ok (.iload 5, 2) := by decide +kernel
theorem dL_law_1310 : decode cL_law 1310 = .ok (.ifCond .ne 15, 3) := by decide +kernel
theorem dL_law_1313 : decode cL_law 1313 = .ok (.aload_n 3, 1) := by decide +kernel
theorem dL_law_1314 : decode cL_law 1314 = .ok (.iconst 0, 1) := by decide +kernel
theorem dL_law_1315 : decode cL_law 1315 = .ok (.laload, 1) := by decide +kernel
theorem dL_law_1316 : decode cL_law 1316 = .ok (.iload 6, 2) := by decide +kernel
theorem dL_law_1318 : decode cL_law 1318 = .ok (.i2l, 1) := by decide +kernel
theorem dL_law_1319 : decode cL_law 1319 = .ok (.lcmp, 1) := by decide +kernel
theorem dL_law_1320 : decode cL_law 1320 = .ok (.ifCond .eq 5, 3) := by decide +kernel
theorem dL_law_1325 : decode cL_law 1325 = .ok (.goto 107, 3) := by decide +kernel
theorem dL_law_1382 : decode cL_law 1382 = .ok (.aload_n 1, 1) := by decide +kernel
theorem dL_law_1383 : decode cL_law 1383 = .ok (.aload_n 0, 1) := by decide +kernel
theorem dL_law_1384 : decode cL_law 1384 = .ok (.iload 4, 2) := by decide +kernel
theorem dL_law_1386 : decode cL_law 1386 = .ok (.iconst 1, 1) := by decide +kernel
theorem dL_law_1387 : decode cL_law 1387 = .ok (.iadd, 1) := by decide +kernel
theorem dL_law_1388 : decode cL_law 1388 = .ok (.iaload, 1) := by decide +kernel
theorem dL_law_1389 : decode cL_law 1389 = .ok (.invokestatic 258, 3) := by decide +kernel
theorem dL_law_1392 : decode cL_law 1392 = .ok (.istore 5, 2) := by decide +kernel
theorem dL_law_1394 : decode cL_law 1394 = .ok (.aload_n 2, 1) := by decide +kernel
theorem dL_law_1395 : decode cL_law 1395 = .ok (.aload_n 0, 1) := by decide +kernel
theorem dL_law_1396 : decode cL_law 1396 = .ok (.iload 4, 2) := by decide +kernel
theorem dL_law_1398 : decode cL_law 1398 = .ok (.iconst 1, 1) := by decide +kernel
theorem dL_law_1399 : decode cL_law 1399 = .ok (.iadd, 1) := by decide +kernel
theorem dL_law_1400 : decode cL_law 1400 = .ok (.iaload, 1) := by decide +kernel
theorem dL_law_1401 : decode cL_law 1401 = .ok (.invokevirtual 261, 3) := by decide +kernel
theorem dL_law_1404 : decode cL_law 1404 = .ok (.goto 28, 3) := by decide +kernel
theorem dL_law_1407 : decode cL_law 1407 = .ok (.aload_n 1, 1) := by decide +kernel
theorem dL_law_1408 : decode cL_law 1408 = .ok (.aload_n 0, 1) := by decide +kernel
theorem dL_law_1409 : decode cL_law 1409 = .ok (.iload 4, 2) := by decide +kernel
theorem dL_law_1411 : decode cL_law 1411 = .ok (.iconst 1, 1) := by decide +kernel
theorem dL_law_1412 : decode cL_law 1412 = .ok (.iadd, 1) := by decide +kernel
theorem dL_law_1413 : decode cL_law 1413 = .ok (.iaload, 1) := by decide +kernel
theorem dL_law_1414 : decode cL_law 1414 = .ok (.invokestatic 262, 3) := by decide +kernel
theorem dL_law_1417 : decode cL_law 1417 = .ok (.istore 5, 2) := by decide +kernel
theorem dL_law_1419 : decode cL_law 1419 = .ok (.aload_n 2, 1) := by decide +kernel
theorem dL_law_1420 : decode cL_law 1420 = .ok (.aload_n 0, 1) := by decide +kernel
theorem dL_law_1421 : decode cL_law 1421 = .ok (.iload 4, 2) := by decide +kernel
theorem dL_law_1423 : decode cL_law 1423 = .ok (.iconst 1, 1) := by decide +kernel
theorem dL_law_1424 : decode cL_law 1424 = .ok (.iadd, 1) := by decide +kernel
theorem dL_law_1425 : decode cL_law 1425 = .ok (.iaload, 1) := by decide +kernel
theorem dL_law_1426 : decode cL_law 1426 = .ok (.invokevirtual 264, 3) := by decide +kernel
theorem dL_law_1429 : decode cL_law 1429 = .ok (.goto 3, 3) := by decide +kernel
set_option maxHeartbeats 4000000 in
set_option maxRecDepth 100000 in
theorem lc_0 (l : Launch) (κ : Kt) (σ0 : Gh) (x mm out b : Nat) (t_x : zk σ0 x 7) (t_mm : zk σ0 mm 20) (t_out : zk σ0 out 24) (ttx0 : zk σ0 (kR κ x 0) 6) (hdis : DIS κ x) (hlt : l.stackTraces = false) {p : Program} {e : Env} {s : State} {m : MethodId} {below : List Frame} {meth : Method} {c : Code} {L : Nat} {xs : Nat → Int32} {i : Int32} {Q9 : State → Prop} (hx : p.tables.exec = Jvm.exec) (hb : c.code = cL_law) (hml : c.maxLocals = 9) (hown : s.vm.findClass RL = some m.cls) (hg : ∀ w ∈ GW, w.before #[Value.ref b] s = true) (hK : va_K κ.1 vwCl (kTy κ) s) (hX : XY κ (tA σ0 s.heap.size) s s.heap) (hXs : va_X b L xs s s.heap) (hbl : b < s.heap.size) (hbA : ¬ tA σ0 s.heap.size b) (zx : zroomX κ s room_1 601024 7293034) (hi0 : 0 ≤ i.toInt) (hi1 : i.toInt + 6 ≤ L) (hL9 : L ≤ 3072) {σ : Gh} {H : Heap} {locs : List Loc} {ls : Array Slot} (hT : TS κ fA σ0 σ s H locs) (hR : RI κ σ mm) (hrel : LREL κ σ x mm) (hsr : SREL κ σ x mm) (hsm : SMP κ σ x mm) (hl : lv_has ls 9 [(4, .int i), (3, .ref out), (2, .ref mm), (1, .ref x), (0, .ref b)]) (KK : ∀ (σ1 : Gh) (H : Heap) (locs : List Loc) (ls : Array Slot), TS (kX κ) fA σ0 σ1 s H locs → RI (kX κ) σ1 mm → LREL κ σ1 x mm → SREL κ σ1 x mm → SMP κ σ1 x mm → lv_has ls 9 [(4, .int i), (3, .ref out), (2, .ref mm), (1, .ref x), (0, .ref b)] → W p l e room_1 s m #[Value.ref b] below meth c H locs 601024 7293034 Q9 (F0 m 1432 ls [])) : W p l e room_1 s m #[Value.ref b] below meth c H locs 601024 7293034 Q9 (F0 m 220 ls []) := by
  obtain ⟨y1, hy1⟩ : ∃ z, z = xs (ix i + 1) := ⟨_, rfl⟩
  obtain ⟨y2, hy2⟩ : ∃ z, z = xs (ix i + 2) := ⟨_, rfl⟩
  obtain ⟨y3, hy3⟩ : ∃ z, z = xs (ix i + 3) := ⟨_, rfl⟩
  obtain ⟨y4, hy4⟩ : ∃ z, z = xs (ix i + 4) := ⟨_, rfl⟩
  obtain ⟨y5, hy5⟩ : ∃ z, z = xs (ix i + 5) := ⟨_, rfl⟩
  have n0 : (0 : Int32).toInt = 0 := by decide
  have n1 : (1 : Int32).toInt = 1 := by decide
  have n2 : (2 : Int32).toInt = 2 := by decide
  have n3 : (3 : Int32).toInt = 3 := by decide
  have n4 : (4 : Int32).toInt = 4 := by decide
  have n5 : (5 : Int32).toInt = 5 := by decide
  obtain ⟨tx, etx⟩ : ∃ z, kR κ x 0 = z := ⟨_, rfl⟩
  have ttx : zk σ0 tx 6 := by rw [← etx]; exact ttx0
  obtain ⟨rB, erB⟩ : ∃ z, kR κ tx 0 = z := ⟨_, rfl⟩
  have trB : zk σ0 rB 14 := by rw [← erB]; exact hT.kr (hT.ref (hT.k ttx (by decide)) (by decide) (by decide) (by decide)) (by decide) (by decide)
  obtain ⟨rT, erT⟩ : ∃ z, kR κ mm 12 = z := ⟨_, rfl⟩
  have trT : zk σ0 rT 23 := by rw [← erT]; exact hT.kr (hT.ref (hT.k t_mm (by decide)) (by decide) (by decide) (by decide)) (by decide) (by decide)
  obtain ⟨rI, erI⟩ : ∃ z, kR κ x 6 = z := ⟨_, rfl⟩
  have trI : zk σ0 rI 13 := by rw [← erI]; exact hT.kr (hT.ref (hT.k t_x (by decide)) (by decide) (by decide) (by decide)) (by decide) (by decide)
  obtain ⟨rK, erK⟩ : ∃ z, kR κ mm 4 = z := ⟨_, rfl⟩
  have trK : zk σ0 rK 29 := by rw [← erK]; exact hT.kr (hT.ref (hT.k t_mm (by decide)) (by decide) (by decide) (by decide)) (by decide) (by decide)
  obtain ⟨hlen, ⟨hal, hnn⟩, ⟨hco, hpo⟩, hkp⟩ := hrel
  rw [etx] at hlen hal hco hpo
  rw [erB, erT] at hal
  rw [erT] at hnn
  rw [erI, erK] at hkp
  have btx := (hT.P (hT.k ttx (by decide)) (by decide)).1
  have btxl := btx.1
  have btxh := btx.2
  obtain ⟨nw, enw⟩ : ∃ z, kR κ x 3 = z := ⟨_, rfl⟩
  have tnw : zk σ0 nw 3 := by rw [← enw]; exact hT.kr (hT.ref (hT.k t_x (by decide)) (by decide) (by decide) (by decide)) (by decide) (by decide)
  obtain ⟨tr, etr⟩ : ∃ z, kR κ x 4 = z := ⟨_, rfl⟩
  have ttr : zk σ0 tr 3 := by rw [← etr]; exact hT.kr (hT.ref (hT.k t_x (by decide)) (by decide) (by decide) (by decide)) (by decide) (by decide)
  obtain ⟨rs5, ers5⟩ : ∃ z, kR κ x 5 = z := ⟨_, rfl⟩
  have trs5 : zk σ0 rs5 12 := by rw [← ers5]; exact hT.kr (hT.ref (hT.k t_x (by decide)) (by decide) (by decide) (by decide)) (by decide) (by decide)
  obtain ⟨sl0, esl0⟩ : ∃ z, kR κ rs5 0 = z := ⟨_, rfl⟩
  have tsl0 : zk σ0 sl0 3 := by rw [← esl0]; exact hT.kr (hT.ref (hT.k trs5 (by decide)) (by decide) (by decide) (by decide)) (by decide) (by decide)
  obtain ⟨sl1, esl1⟩ : ∃ z, kR κ rs5 1 = z := ⟨_, rfl⟩
  have tsl1 : zk σ0 sl1 3 := by rw [← esl1]; exact hT.kr (hT.ref (hT.k trs5 (by decide)) (by decide) (by decide) (by decide)) (by decide) (by decide)
  obtain ⟨rW, erW⟩ : ∃ z, kR κ mm 1 = z := ⟨_, rfl⟩
  have trW : zk σ0 rW 21 := by rw [← erW]; exact hT.kr (hT.ref (hT.k t_mm (by decide)) (by decide) (by decide) (by decide)) (by decide) (by decide)
  obtain ⟨rS, erS⟩ : ∃ z, kR κ mm 3 = z := ⟨_, rfl⟩
  have trS : zk σ0 rS 22 := by rw [← erS]; exact hT.kr (hT.ref (hT.k t_mm (by decide)) (by decide) (by decide) (by decide)) (by decide) (by decide)
  obtain ⟨so, eso⟩ : ∃ z, kR κ x 1 = z := ⟨_, rfl⟩
  have tso : zk σ0 so 4 := by rw [← eso]; exact hT.kr (hT.ref (hT.k t_x (by decide)) (by decide) (by decide) (by decide)) (by decide) (by decide)
  obtain ⟨qP, eqP⟩ : ∃ z, kR κ so 0 = z := ⟨_, rfl⟩
  have tqP : zk σ0 qP 8 := by rw [← eqP]; exact hT.kr (hT.ref (hT.k tso (by decide)) (by decide) (by decide) (by decide)) (by decide) (by decide)
  obtain ⟨qO, eqO⟩ : ∃ z, kR κ so 1 = z := ⟨_, rfl⟩
  have tqO : zk σ0 qO 16 := by rw [← eqO]; exact hT.kr (hT.ref (hT.k tso (by decide)) (by decide) (by decide) (by decide)) (by decide) (by decide)
  obtain ⟨r5, er5⟩ : ∃ z, kR κ mm 5 = z := ⟨_, rfl⟩
  have tr5 : zk σ0 r5 25 := by rw [← er5]; exact hT.kr (hT.ref (hT.k t_mm (by decide)) (by decide) (by decide) (by decide)) (by decide) (by decide)
  obtain ⟨r6, er6⟩ : ∃ z, kR κ mm 6 = z := ⟨_, rfl⟩
  have tr6 : zk σ0 r6 26 := by rw [← er6]; exact hT.kr (hT.ref (hT.k t_mm (by decide)) (by decide) (by decide) (by decide)) (by decide) (by decide)
  obtain ⟨hnw, hsl⟩ := hsr
  obtain ⟨hd1, ⟨hd2, hd3⟩, hd4, hd5, hd6, hd7⟩ := hdis
  have d_nt : nw ≠ tr := by rw [← enw, ← etr]; exact hd2
  have d_n0 : nw ≠ sl0 := by rw [← enw, ← esl0, ← ers5]; exact hd3 0 (by decide)
  have d_t0 : sl0 ≠ tr := by rw [← etr, ← esl0, ← ers5]; exact fun q => hd4 0 (by decide) q.symm
  have d_n1 : nw ≠ sl1 := by rw [← enw, ← esl1, ← ers5]; exact hd3 1 (by decide)
  have d_t1 : sl1 ≠ tr := by rw [← etr, ← esl1, ← ers5]; exact fun q => hd4 1 (by decide) q.symm
  have d_01 : sl0 ≠ sl1 := by rw [← esl0, ← esl1, ← ers5]; exact hd5
  have knw : zk σ nw 3 := hT.k tnw (by decide)
  have ksl0 : zk σ sl0 3 := hT.k tsl0 (by decide)
  have ksl1 : zk σ sl1 3 := hT.k tsl1 (by decide)
  refine lv_aload_n hx hb dL_law_220 rfl (lv_at hl 3 rfl) ?_
  refine lv_aload_n hx hb dL_law_221 rfl (lv_at hl 4 rfl) ?_
  refine lv_iload hx hb dL_law_222 (lv_at hl 0 rfl) ?_
  refine lv_iconst (v := 1) hx hb dL_law_224 (by decide) ?_
  refine lv_iadd hx hb dL_law_225 ?_
  refine g_add (by omega) (by omega) (fun t1 ht1 => ?_)
  refine va_sld hx hb hXs hbl hbA hT.2.2.2 (g_in (by omega) (by omega)) dL_law_226 ?_
  refine ti y1 (by rw [hy1]; exact congrArg xs (show t1.toNatClampNeg = ix i + 1 from by show t1.toInt.toNat = ix i + 1; unfold ix; omega)) ?_
  refine lv_aload_n hx hb dL_law_227 rfl (lv_at hl 4 rfl) ?_
  refine lv_iload hx hb dL_law_228 (lv_at hl 0 rfl) ?_
  refine lv_iconst (v := 2) hx hb dL_law_230 (by decide) ?_
  refine lv_iadd hx hb dL_law_231 ?_
  refine g_add (by omega) (by omega) (fun t2 ht2 => ?_)
  refine va_sld hx hb hXs hbl hbA hT.2.2.2 (g_in (by omega) (by omega)) dL_law_232 ?_
  refine ti y2 (by rw [hy2]; exact congrArg xs (show t2.toNatClampNeg = ix i + 2 from by show t2.toInt.toNat = ix i + 2; unfold ix; omega)) ?_
  refine lv_aload_n hx hb dL_law_233 rfl (lv_at hl 4 rfl) ?_
  refine lv_iload hx hb dL_law_234 (lv_at hl 0 rfl) ?_
  refine lv_iconst (v := 3) hx hb dL_law_236 (by decide) ?_
  refine lv_iadd hx hb dL_law_237 ?_
  refine g_add (by omega) (by omega) (fun t3 ht3 => ?_)
  refine va_sld hx hb hXs hbl hbA hT.2.2.2 (g_in (by omega) (by omega)) dL_law_238 ?_
  refine ti y3 (by rw [hy3]; exact congrArg xs (show t3.toNatClampNeg = ix i + 3 from by show t3.toInt.toNat = ix i + 3; unfold ix; omega)) ?_
  refine lv_aload_n hx hb dL_law_239 rfl (lv_at hl 4 rfl) ?_
  refine lv_iload hx hb dL_law_240 (lv_at hl 0 rfl) ?_
  refine lv_iconst (v := 4) hx hb dL_law_242 (by decide) ?_
  refine lv_iadd hx hb dL_law_243 ?_
  refine g_add (by omega) (by omega) (fun t4 ht4 => ?_)
  refine va_sld hx hb hXs hbl hbA hT.2.2.2 (g_in (by omega) (by omega)) dL_law_244 ?_
  refine ti y4 (by rw [hy4]; exact congrArg xs (show t4.toNatClampNeg = ix i + 4 from by show t4.toInt.toNat = ix i + 4; unfold ix; omega)) ?_
  refine lv_aload_n hx hb dL_law_245 rfl (lv_at hl 4 rfl) ?_
  refine lv_iload hx hb dL_law_246 (lv_at hl 0 rfl) ?_
  refine lv_iconst (v := 5) hx hb dL_law_248 (by decide) ?_
  refine lv_iadd hx hb dL_law_249 ?_
  refine g_add (by omega) (by omega) (fun t5 ht5 => ?_)
  refine va_sld hx hb hXs hbl hbA hT.2.2.2 (g_in (by omega) (by omega)) dL_law_250 ?_
  refine ti y5 (by rw [hy5]; exact congrArg xs (show t5.toNatClampNeg = ix i + 5 from by show t5.toInt.toNat = ix i + 5; unfold ix; omega)) ?_
  have hTo := hT
  refine tVi (n := 5) (As := [.int y1, .int y2, .int y3, .int y4, .int y5]) (rest := []) hx hb hml hown hg hT hK hX (X5s_append l κ σ x y1 y2 y3 y4 y5 (hT.k t_x (by decide))) sub_fT1_fA (mwV k411 k412 k413 k84 k414) ⟨rfl, by decide, by decide, by decide +kernel⟩ ⟨(Nat.le_of_ble_eq_true rfl), (Nat.le_of_ble_eq_true rfl)⟩ (hT.o7 (hT.k t_x (by decide))) rfl rfl hl.1 rfl (Nat.le_of_ble_eq_true rfl) dL_law_251 zx.dn (fun r7 s6 H locs hφ hE hT => ?_)
  have f8 := hφ
  rw [etx] at f8
  have R9 := hR.ext hE ⟨rfl, rfl, fun _ => rfl, fun _ => rfl, fun _ => rfl, fun _ => rfl⟩
  have j10 : zI s6 rT = zI σ rT := (show zI s6 rT = zI σ rT from funext fun k => (hTo.k trT (by decide)).eI hE (by decide) rfl)
  have j11 : zI s6 rI = zI σ rI := (show zI s6 rI = zI σ rI from funext fun k => (hTo.k trI (by decide)).eI hE (by decide) rfl)
  have j12 : zI s6 rK = zI σ rK := (show zI s6 rK = zI σ rK from funext fun k => (hTo.k trK (by decide)).eI hE (by decide) rfl)
  have j13 : zI s6 tx 2 = zI σ tx 2 := (hTo.k ttx (by decide)).eI hE (by decide) rfl
  have j14 : zI s6 tx 3 = zI σ tx 3 := (hTo.k ttx (by decide)).eI hE (by decide) rfl
  have j15 : zI s6 mm 15 = zI σ mm 15 := (hTo.k t_mm (by decide)).eI hE (by decide) rfl
  have j16 : zI s6 mm 16 = zI σ mm 16 := (hTo.k t_mm (by decide)).eI hE (by decide) rfl
  have n17 : zI s6 nw 7 = zI σ nw 7 ∧ zI s6 nw 8 = zI σ nw 8 ∧ zI s6 nw 9 = zI σ nw 9 := ⟨(hTo.k tnw (by decide)).eI hE (by decide) rfl, (hTo.k tnw (by decide)).eI hE (by decide) rfl, (hTo.k tnw (by decide)).eI hE (by decide) rfl⟩
  have n18 : zI s6 sl0 7 = zI σ sl0 7 ∧ zI s6 sl0 8 = zI σ sl0 8 ∧ zI s6 sl0 9 = zI σ sl0 9 := ⟨(hTo.k tsl0 (by decide)).eI hE (by decide) rfl, (hTo.k tsl0 (by decide)).eI hE (by decide) rfl, (hTo.k tsl0 (by decide)).eI hE (by decide) rfl⟩
  have n19 : zI s6 sl1 7 = zI σ sl1 7 ∧ zI s6 sl1 8 = zI σ sl1 8 ∧ zI s6 sl1 9 = zI σ sl1 9 := ⟨(hTo.k tsl1 (by decide)).eI hE (by decide) rfl, (hTo.k tsl1 (by decide)).eI hE (by decide) rfl, (hTo.k tsl1 (by decide)).eI hE (by decide) rfl⟩
  have n20 : ∀ j : Nat, j < 3 → zJ s6 rW j = zJ σ rW j := fun j hj => (hTo.k trW (by decide)).eJ hE (by decide) rfl
  have n21 : zJ s6 rS = zJ σ rS := (show zJ s6 rS = zJ σ rS from funext fun k => (hTo.k trS (by decide)).eJ hE (by decide) rfl)
  have z22 : zI s6 so 2 = zI σ so 2 ∧ zI s6 so 6 = zI σ so 6 ∧ zI s6 qP = zI σ qP ∧ zI s6 qO = zI σ qO := ⟨(hTo.k tso (by decide)).eI hE (by decide) rfl, (hTo.k tso (by decide)).eI hE (by decide) rfl, funext fun q9 => (hTo.k tqP (by decide)).eI hE (by decide) rfl, funext fun q9 => (hTo.k tqO (by decide)).eI hE (by decide) rfl⟩
  have z23 : zI s6 mm 7 = zI σ mm 7 ∧ zI s6 mm 8 = zI σ mm 8 ∧ zI s6 r5 = zI σ r5 ∧ zI s6 r6 = zI σ r6 := ⟨(hTo.k t_mm (by decide)).eI hE (by decide) rfl, (hTo.k t_mm (by decide)).eI hE (by decide) rfl, funext fun q9 => (hTo.k tr5 (by decide)).eI hE (by decide) rfl, funext fun q9 => (hTo.k tr6 (by decide)).eI hE (by decide) rfl⟩
  rw [erB] at f8
  have a24 : (zI s6 mm 13).toInt = (zI σ mm 13).toInt := by rw [(hTo.k t_mm (by decide)).eI hE (by decide) rfl]
  refine lv_pop hx hb dL_law_254 rfl ?_
  refine lv_aload_n hx hb dL_law_255 rfl (lv_at hl 2 rfl) ?_
  refine lv_aload_n hx hb dL_law_256 rfl (lv_at hl 4 rfl) ?_
  refine lv_iload hx hb dL_law_257 (lv_at hl 0 rfl) ?_
  refine lv_iconst (v := 1) hx hb dL_law_259 (by decide) ?_
  refine lv_iadd hx hb dL_law_260 ?_
  refine g_add (by omega) (by omega) (fun t25 ht25 => ?_)
  refine va_sld hx hb hXs hbl hbA hT.2.2.2 (g_in (by omega) (by omega)) dL_law_261 ?_
  refine ti y1 (by rw [hy1]; exact congrArg xs (show t25.toNatClampNeg = ix i + 1 from by show t25.toInt.toNat = ix i + 1; unfold ix; omega)) ?_
  refine lv_aload_n hx hb dL_law_262 rfl (lv_at hl 4 rfl) ?_
  refine lv_iload hx hb dL_law_263 (lv_at hl 0 rfl) ?_
  refine lv_iconst (v := 2) hx hb dL_law_265 (by decide) ?_
  refine lv_iadd hx hb dL_law_266 ?_
  refine g_add (by omega) (by omega) (fun t26 ht26 => ?_)
  refine va_sld hx hb hXs hbl hbA hT.2.2.2 (g_in (by omega) (by omega)) dL_law_267 ?_
  refine ti y2 (by rw [hy2]; exact congrArg xs (show t26.toNatClampNeg = ix i + 2 from by show t26.toInt.toNat = ix i + 2; unfold ix; omega)) ?_
  refine lv_aload_n hx hb dL_law_268 rfl (lv_at hl 4 rfl) ?_
  refine lv_iload hx hb dL_law_269 (lv_at hl 0 rfl) ?_
  refine lv_iconst (v := 3) hx hb dL_law_271 (by decide) ?_
  refine lv_iadd hx hb dL_law_272 ?_
  refine g_add (by omega) (by omega) (fun t27 ht27 => ?_)
  refine va_sld hx hb hXs hbl hbA hT.2.2.2 (g_in (by omega) (by omega)) dL_law_273 ?_
  refine ti y3 (by rw [hy3]; exact congrArg xs (show t27.toNatClampNeg = ix i + 3 from by show t27.toInt.toNat = ix i + 3; unfold ix; omega)) ?_
  refine lv_aload_n hx hb dL_law_274 rfl (lv_at hl 4 rfl) ?_
  refine lv_iload hx hb dL_law_275 (lv_at hl 0 rfl) ?_
  refine lv_iconst (v := 4) hx hb dL_law_277 (by decide) ?_
  refine lv_iadd hx hb dL_law_278 ?_
  refine g_add (by omega) (by omega) (fun t28 ht28 => ?_)
  refine va_sld hx hb hXs hbl hbA hT.2.2.2 (g_in (by omega) (by omega)) dL_law_279 ?_
  refine ti y4 (by rw [hy4]; exact congrArg xs (show t28.toNatClampNeg = ix i + 4 from by show t28.toInt.toNat = ix i + 4; unfold ix; omega)) ?_
  refine lv_aload_n hx hb dL_law_280 rfl (lv_at hl 4 rfl) ?_
  refine lv_iload hx hb dL_law_281 (lv_at hl 0 rfl) ?_
  refine lv_iconst (v := 5) hx hb dL_law_283 (by decide) ?_
  refine lv_iadd hx hb dL_law_284 ?_
  refine g_add (by omega) (by omega) (fun t29 ht29 => ?_)
  refine va_sld hx hb hXs hbl hbA hT.2.2.2 (g_in (by omega) (by omega)) dL_law_285 ?_
  refine ti y5 (by rw [hy5]; exact congrArg xs (show t29.toNatClampNeg = ix i + 5 from by show t29.toInt.toNat = ix i + 5; unfold ix; omega)) ?_
  have hTo := hT
  refine tVi (n := 5) (As := [.int y1, .int y2, .int y3, .int y4, .int y5]) (rest := []) hx hb hml hown hg hT hK hX (X6s_append l κ s6 mm y1 y2 y3 y4 y5 (hT.k t_mm (by decide)) R9) sub_gAp_fA (mwV k1305 k1306 k1307 k92 k1308) ⟨rfl, by decide, by decide, by decide +kernel⟩ ⟨(Nat.le_of_ble_eq_true rfl), (Nat.le_of_ble_eq_true rfl)⟩ (hT.o20 (hT.k t_mm (by decide))) rfl rfl hl.1 rfl (Nat.le_of_ble_eq_true rfl) dL_law_286 zx.dn (fun r31 s30 H locs hφ hE hT => ?_)
  obtain ⟨f32, f33⟩ := hφ
  have a34 : (zI s30 tx 1).toInt = (zI s6 tx 1).toInt := by rw [(hTo.k ttx (by decide)).eI hE (by decide) rfl]
  have j35 : zI s30 rB = zI s6 rB := (show zI s30 rB = zI s6 rB from funext fun k => (hTo.k trB (by decide)).eI hE (by decide) rfl)
  have j36 : zI s30 rI = zI σ rI := ((show zI s30 rI = zI s6 rI from funext fun k => (hTo.k trI (by decide)).eI hE (by decide) rfl)).trans j11
  have j37 : zI s30 rK = zI σ rK := ((show zI s30 rK = zI s6 rK from funext fun k => (hTo.k trK (by decide)).eI hE (by decide) rfl)).trans j12
  have j38 : zI s30 tx 2 = zI σ tx 2 := ((hTo.k ttx (by decide)).eI hE (by decide) rfl).trans j13
  have j39 : zI s30 tx 3 = zI σ tx 3 := ((hTo.k ttx (by decide)).eI hE (by decide) rfl).trans j14
  have j40 : zI s30 mm 15 = zI σ mm 15 := ((hTo.k t_mm (by decide)).eI hE (by decide) rfl).trans j15
  have j41 : zI s30 mm 16 = zI σ mm 16 := ((hTo.k t_mm (by decide)).eI hE (by decide) rfl).trans j16
  have n42 : zI s30 nw 7 = zI s6 nw 7 ∧ zI s30 nw 8 = zI s6 nw 8 ∧ zI s30 nw 9 = zI s6 nw 9 := ⟨(hTo.k tnw (by decide)).eI hE (by decide) rfl, (hTo.k tnw (by decide)).eI hE (by decide) rfl, (hTo.k tnw (by decide)).eI hE (by decide) rfl⟩
  have n43 : zI s30 nw 7 = zI σ nw 7 ∧ zI s30 nw 8 = zI σ nw 8 ∧ zI s30 nw 9 = zI σ nw 9 := ⟨n42.1.trans n17.1, n42.2.1.trans n17.2.1, n42.2.2.trans n17.2.2⟩
  have n44 : zI s30 sl0 7 = zI s6 sl0 7 ∧ zI s30 sl0 8 = zI s6 sl0 8 ∧ zI s30 sl0 9 = zI s6 sl0 9 := ⟨(hTo.k tsl0 (by decide)).eI hE (by decide) rfl, (hTo.k tsl0 (by decide)).eI hE (by decide) rfl, (hTo.k tsl0 (by decide)).eI hE (by decide) rfl⟩
  have n45 : zI s30 sl0 7 = zI σ sl0 7 ∧ zI s30 sl0 8 = zI σ sl0 8 ∧ zI s30 sl0 9 = zI σ sl0 9 := ⟨n44.1.trans n18.1, n44.2.1.trans n18.2.1, n44.2.2.trans n18.2.2⟩
  have n46 : zI s30 sl1 7 = zI s6 sl1 7 ∧ zI s30 sl1 8 = zI s6 sl1 8 ∧ zI s30 sl1 9 = zI s6 sl1 9 := ⟨(hTo.k tsl1 (by decide)).eI hE (by decide) rfl, (hTo.k tsl1 (by decide)).eI hE (by decide) rfl, (hTo.k tsl1 (by decide)).eI hE (by decide) rfl⟩
  have n47 : zI s30 sl1 7 = zI σ sl1 7 ∧ zI s30 sl1 8 = zI σ sl1 8 ∧ zI s30 sl1 9 = zI σ sl1 9 := ⟨n46.1.trans n19.1, n46.2.1.trans n19.2.1, n46.2.2.trans n19.2.2⟩
  have n48 : ∀ j : Nat, j < 3 → zJ s30 rW j = zJ s6 rW j := fun j hj => (hTo.k trW (by decide)).eJ hE (by decide) rfl
  have n49 : ∀ j : Nat, j < 3 → zJ s30 rW j = zJ σ rW j := fun j hj => (n48 j hj).trans (n20 j hj)
  have n50 : zJ s30 rS = zJ σ rS := (show zJ s30 rS = zJ s6 rS from funext fun k => (hTo.k trS (by decide)).eJ hE (by decide) rfl).trans n21
  have z51 : zI s30 so 2 = zI s6 so 2 ∧ zI s30 so 6 = zI s6 so 6 ∧ zI s30 qP = zI s6 qP ∧ zI s30 qO = zI s6 qO := ⟨(hTo.k tso (by decide)).eI hE (by decide) rfl, (hTo.k tso (by decide)).eI hE (by decide) rfl, funext fun q9 => (hTo.k tqP (by decide)).eI hE (by decide) rfl, funext fun q9 => (hTo.k tqO (by decide)).eI hE (by decide) rfl⟩
  have z52 : zI s30 so 2 = zI σ so 2 ∧ zI s30 so 6 = zI σ so 6 ∧ zI s30 qP = zI σ qP ∧ zI s30 qO = zI σ qO := ⟨z51.1.trans z22.1, z51.2.1.trans z22.2.1, z51.2.2.1.trans z22.2.2.1, z51.2.2.2.trans z22.2.2.2⟩
  have z53 : zI s30 mm 7 = zI s6 mm 7 ∧ zI s30 mm 8 = zI s6 mm 8 ∧ zI s30 r5 = zI s6 r5 ∧ zI s30 r6 = zI s6 r6 := ⟨(hTo.k t_mm (by decide)).eI hE (by decide) rfl, (hTo.k t_mm (by decide)).eI hE (by decide) rfl, funext fun q9 => (hTo.k tr5 (by decide)).eI hE (by decide) rfl, funext fun q9 => (hTo.k tr6 (by decide)).eI hE (by decide) rfl⟩
  have z54 : zI s30 mm 7 = zI σ mm 7 ∧ zI s30 mm 8 = zI σ mm 8 ∧ zI s30 r5 = zI σ r5 ∧ zI s30 r6 = zI σ r6 := ⟨z53.1.trans z23.1, z53.2.1.trans z23.2.1, z53.2.2.1.trans z23.2.2.1, z53.2.2.2.trans z23.2.2.2⟩
  rw [erT] at f33
  refine lv_pop hx hb dL_law_289 rfl ?_
  refine lv_goto (tgt := 1432) hx hb dL_law_290 (by decide) ?_
  have sl0f : zI s30 rI 0 ≠ 0 → SLT κ s30 x mm 0 := fun hq => (hsl 0 (by decide) (fun q9 => hq (by rw [erI] at q9; rw [j36]; exact q9))).tr (by rw [ers5, esl0]; exact n45) (fun j hj => by rw [erS, n50])
  have sl1f : zI s30 rI 1 ≠ 0 → SLT κ s30 x mm 1 := fun hq => (hsl 1 (by decide) (fun q9 => hq (by rw [erI] at q9; rw [j36]; exact q9))).tr (by rw [ers5, esl1]; exact n47) (fun j hj => by rw [erS, n50])
  exact KK s30 _ _ _ hT.up f32 ⟨by rw [etx]; omega, ⟨(by rw [etx, erB, erT, j35]; rcases f8 with ⟨c1, c2, c3, c4⟩ | ⟨c1, c2, c3, c4⟩ <;> rcases f33 with ⟨m1, m2, m3, m4⟩ | ⟨m1, m2, m3, m4⟩ <;> first | (exfalso; omega) | (rw [c4, m4, j10, show (zI s30 mm 13).toInt.toNat = (zI σ mm 13).toInt.toNat + 20 from by omega, show (zI σ tx 1).toInt.toNat = (zI σ mm 13).toInt.toNat from by omega, show (zI s6 mm 13).toInt.toNat = (zI σ mm 13).toInt.toNat from by omega]; exact tal_20 hal) | (rw [c4, m4, j10]; exact tal_less hal (by omega))), (by rw [erT]; rcases f33 with ⟨m1, m2, m3, m4⟩ | ⟨m1, m2, m3, m4⟩ <;> first | (rw [m4, j10, show (zI s30 mm 13).toInt.toNat = (zI σ mm 13).toInt.toNat + 20 from by omega, show (zI s6 mm 13).toInt.toNat = (zI σ mm 13).toInt.toNat from by omega]; exact tnn_20 hnn) | (rw [m4, j10]; exact tnn_less hnn (by omega)))⟩, ⟨by rw [etx, j38, j40]; exact hco, by rw [etx, j39, j41]; exact hpo⟩, fun i hi => by rw [erI, erK, j36, j37]; exact hkp i hi⟩ (⟨hnw.tr (by rw [enw]; exact n43) (by rw [erW]; exact n49), fun i hi => (show i = 0 ∨ i = 1 by omega).elim (fun e9 => by rw [e9, erI]; exact sl0f) (fun e9 => by rw [e9, erI]; exact sl1f)⟩) (hsm.tr (by rw [eso, eqP, eqO]; exact z52) (by rw [er5, er6]; exact z54)) (lv_sub hl [0, 1, 2, 3, 4] rfl)
set_option maxHeartbeats 4000000 in
set_option maxRecDepth 100000 in
theorem lc_2 (l : Launch) (κ : Kt) (σ0 : Gh) (x mm out b : Nat) (t_x : zk σ0 x 7) (t_mm : zk σ0 mm 20) (t_out : zk σ0 out 24) (ttx0 : zk σ0 (kR κ x 0) 6) (hdis : DIS κ x) (hlt : l.stackTraces = false) {p : Program} {e : Env} {s : State} {m : MethodId} {below : List Frame} {meth : Method} {c : Code} {L : Nat} {xs : Nat → Int32} {i : Int32} {Q9 : State → Prop} (hx : p.tables.exec = Jvm.exec) (hb : c.code = cL_law) (hml : c.maxLocals = 9) (hown : s.vm.findClass RL = some m.cls) (hg : ∀ w ∈ GW, w.before #[Value.ref b] s = true) (hK : va_K κ.1 vwCl (kTy κ) s) (hX : XY κ (tA σ0 s.heap.size) s s.heap) (hXs : va_X b L xs s s.heap) (hbl : b < s.heap.size) (hbA : ¬ tA σ0 s.heap.size b) (zx : zroomX κ s room_1 601024 7293034) (hi0 : 0 ≤ i.toInt) (hi1 : i.toInt + 6 ≤ L) (hL9 : L ≤ 3072) {σ : Gh} {H : Heap} {locs : List Loc} {ls : Array Slot} (hT : TS κ fA σ0 σ s H locs) (hR : RI κ σ mm) (hrel : LREL κ σ x mm) (hsr : SREL κ σ x mm) (hsm : SMP κ σ x mm) (hl : lv_has ls 9 [(4, .int i), (3, .ref out), (2, .ref mm), (1, .ref x), (0, .ref b)]) (KK : ∀ (σ1 : Gh) (H : Heap) (locs : List Loc) (ls : Array Slot), TS (kX κ) fA σ0 σ1 s H locs → RI (kX κ) σ1 mm → LREL κ σ1 x mm → SREL κ σ1 x mm → SMP κ σ1 x mm → lv_has ls 9 [(4, .int i), (3, .ref out), (2, .ref mm), (1, .ref x), (0, .ref b)] → W p l e room_1 s m #[Value.ref b] below meth c H locs 601024 7293034 Q9 (F0 m 1432 ls [])) : W p l e room_1 s m #[Value.ref b] below meth c H locs 601024 7293034 Q9 (F0 m 321 ls []) := by
  obtain ⟨y1, hy1⟩ : ∃ z, z = xs (ix i + 1) := ⟨_, rfl⟩
  obtain ⟨y2, hy2⟩ : ∃ z, z = xs (ix i + 2) := ⟨_, rfl⟩
  obtain ⟨y3, hy3⟩ : ∃ z, z = xs (ix i + 3) := ⟨_, rfl⟩
  obtain ⟨y4, hy4⟩ : ∃ z, z = xs (ix i + 4) := ⟨_, rfl⟩
  obtain ⟨y5, hy5⟩ : ∃ z, z = xs (ix i + 5) := ⟨_, rfl⟩
  have n0 : (0 : Int32).toInt = 0 := by decide
  have n1 : (1 : Int32).toInt = 1 := by decide
  have n2 : (2 : Int32).toInt = 2 := by decide
  have n3 : (3 : Int32).toInt = 3 := by decide
  have n4 : (4 : Int32).toInt = 4 := by decide
  have n5 : (5 : Int32).toInt = 5 := by decide
  obtain ⟨tx, etx⟩ : ∃ z, kR κ x 0 = z := ⟨_, rfl⟩
  have ttx : zk σ0 tx 6 := by rw [← etx]; exact ttx0
  obtain ⟨rB, erB⟩ : ∃ z, kR κ tx 0 = z := ⟨_, rfl⟩
  have trB : zk σ0 rB 14 := by rw [← erB]; exact hT.kr (hT.ref (hT.k ttx (by decide)) (by decide) (by decide) (by decide)) (by decide) (by decide)
  obtain ⟨rT, erT⟩ : ∃ z, kR κ mm 12 = z := ⟨_, rfl⟩
  have trT : zk σ0 rT 23 := by rw [← erT]; exact hT.kr (hT.ref (hT.k t_mm (by decide)) (by decide) (by decide) (by decide)) (by decide) (by decide)
  obtain ⟨rI, erI⟩ : ∃ z, kR κ x 6 = z := ⟨_, rfl⟩
  have trI : zk σ0 rI 13 := by rw [← erI]; exact hT.kr (hT.ref (hT.k t_x (by decide)) (by decide) (by decide) (by decide)) (by decide) (by decide)
  obtain ⟨rK, erK⟩ : ∃ z, kR κ mm 4 = z := ⟨_, rfl⟩
  have trK : zk σ0 rK 29 := by rw [← erK]; exact hT.kr (hT.ref (hT.k t_mm (by decide)) (by decide) (by decide) (by decide)) (by decide) (by decide)
  obtain ⟨hlen, ⟨hal, hnn⟩, ⟨hco, hpo⟩, hkp⟩ := hrel
  rw [etx] at hlen hal hco hpo
  rw [erB, erT] at hal
  rw [erT] at hnn
  rw [erI, erK] at hkp
  have btx := (hT.P (hT.k ttx (by decide)) (by decide)).1
  have btxl := btx.1
  have btxh := btx.2
  obtain ⟨nw, enw⟩ : ∃ z, kR κ x 3 = z := ⟨_, rfl⟩
  have tnw : zk σ0 nw 3 := by rw [← enw]; exact hT.kr (hT.ref (hT.k t_x (by decide)) (by decide) (by decide) (by decide)) (by decide) (by decide)
  obtain ⟨tr, etr⟩ : ∃ z, kR κ x 4 = z := ⟨_, rfl⟩
  have ttr : zk σ0 tr 3 := by rw [← etr]; exact hT.kr (hT.ref (hT.k t_x (by decide)) (by decide) (by decide) (by decide)) (by decide) (by decide)
  obtain ⟨rs5, ers5⟩ : ∃ z, kR κ x 5 = z := ⟨_, rfl⟩
  have trs5 : zk σ0 rs5 12 := by rw [← ers5]; exact hT.kr (hT.ref (hT.k t_x (by decide)) (by decide) (by decide) (by decide)) (by decide) (by decide)
  obtain ⟨sl0, esl0⟩ : ∃ z, kR κ rs5 0 = z := ⟨_, rfl⟩
  have tsl0 : zk σ0 sl0 3 := by rw [← esl0]; exact hT.kr (hT.ref (hT.k trs5 (by decide)) (by decide) (by decide) (by decide)) (by decide) (by decide)
  obtain ⟨sl1, esl1⟩ : ∃ z, kR κ rs5 1 = z := ⟨_, rfl⟩
  have tsl1 : zk σ0 sl1 3 := by rw [← esl1]; exact hT.kr (hT.ref (hT.k trs5 (by decide)) (by decide) (by decide) (by decide)) (by decide) (by decide)
  obtain ⟨rW, erW⟩ : ∃ z, kR κ mm 1 = z := ⟨_, rfl⟩
  have trW : zk σ0 rW 21 := by rw [← erW]; exact hT.kr (hT.ref (hT.k t_mm (by decide)) (by decide) (by decide) (by decide)) (by decide) (by decide)
  obtain ⟨rS, erS⟩ : ∃ z, kR κ mm 3 = z := ⟨_, rfl⟩
  have trS : zk σ0 rS 22 := by rw [← erS]; exact hT.kr (hT.ref (hT.k t_mm (by decide)) (by decide) (by decide) (by decide)) (by decide) (by decide)
  obtain ⟨so, eso⟩ : ∃ z, kR κ x 1 = z := ⟨_, rfl⟩
  have tso : zk σ0 so 4 := by rw [← eso]; exact hT.kr (hT.ref (hT.k t_x (by decide)) (by decide) (by decide) (by decide)) (by decide) (by decide)
  obtain ⟨qP, eqP⟩ : ∃ z, kR κ so 0 = z := ⟨_, rfl⟩
  have tqP : zk σ0 qP 8 := by rw [← eqP]; exact hT.kr (hT.ref (hT.k tso (by decide)) (by decide) (by decide) (by decide)) (by decide) (by decide)
  obtain ⟨qO, eqO⟩ : ∃ z, kR κ so 1 = z := ⟨_, rfl⟩
  have tqO : zk σ0 qO 16 := by rw [← eqO]; exact hT.kr (hT.ref (hT.k tso (by decide)) (by decide) (by decide) (by decide)) (by decide) (by decide)
  obtain ⟨r5, er5⟩ : ∃ z, kR κ mm 5 = z := ⟨_, rfl⟩
  have tr5 : zk σ0 r5 25 := by rw [← er5]; exact hT.kr (hT.ref (hT.k t_mm (by decide)) (by decide) (by decide) (by decide)) (by decide) (by decide)
  obtain ⟨r6, er6⟩ : ∃ z, kR κ mm 6 = z := ⟨_, rfl⟩
  have tr6 : zk σ0 r6 26 := by rw [← er6]; exact hT.kr (hT.ref (hT.k t_mm (by decide)) (by decide) (by decide) (by decide)) (by decide) (by decide)
  obtain ⟨hnw, hsl⟩ := hsr
  obtain ⟨hd1, ⟨hd2, hd3⟩, hd4, hd5, hd6, hd7⟩ := hdis
  have d_nt : nw ≠ tr := by rw [← enw, ← etr]; exact hd2
  have d_n0 : nw ≠ sl0 := by rw [← enw, ← esl0, ← ers5]; exact hd3 0 (by decide)
  have d_t0 : sl0 ≠ tr := by rw [← etr, ← esl0, ← ers5]; exact fun q => hd4 0 (by decide) q.symm
  have d_n1 : nw ≠ sl1 := by rw [← enw, ← esl1, ← ers5]; exact hd3 1 (by decide)
  have d_t1 : sl1 ≠ tr := by rw [← etr, ← esl1, ← ers5]; exact fun q => hd4 1 (by decide) q.symm
  have d_01 : sl0 ≠ sl1 := by rw [← esl0, ← esl1, ← ers5]; exact hd5
  have knw : zk σ nw 3 := hT.k tnw (by decide)
  have ksl0 : zk σ sl0 3 := hT.k tsl0 (by decide)
  have ksl1 : zk σ sl1 3 := hT.k tsl1 (by decide)
  have hw7 : (zI σ nw 7).toInt = (zJ σ rW 0).toInt := by rw [← enw, ← erW]; exact hnw.1
  have hb7 := Int32.le_toInt (zI σ nw 7)
  have hc7 := Int32.toInt_lt (zI σ nw 7)
  have hw8 : (zI σ nw 8).toInt = (zJ σ rW 1).toInt := by rw [← enw, ← erW]; exact hnw.2.1
  have hb8 := Int32.le_toInt (zI σ nw 8)
  have hc8 := Int32.toInt_lt (zI σ nw 8)
  have hw9 : (zI σ nw 9).toInt = (zJ σ rW 2).toInt := by rw [← enw, ← erW]; exact hnw.2.2
  have hb9 := Int32.le_toInt (zI σ nw 9)
  have hc9 := Int32.toInt_lt (zI σ nw 9)
  refine lv_aload_n hx hb dL_law_321 rfl (lv_at hl 3 rfl) ?_
  refine lv_aload_n hx hb dL_law_322 rfl (lv_at hl 1 rfl) ?_
  have hTo := hT
  refine tHi (n := 2) (As := [.ref x, .ref out]) (rest := []) hx hb hml hown hg hT hK hX (L_load l κ σ x out (hT.k t_x (by decide)) (hT.k t_out (by decide)) (show TXc κ σ (kR κ x 0) (fun j => (zI σ rB j).toInt) (zI σ mm 13).toInt.toNat from ⟨fun j => by show (zI σ rB j).toInt = _; rw [etx, erB], by rw [etx]; omega⟩) hd1 hlt) sub_hfLd_fA (mwHS k681 k682 k83 k683) ⟨by decide, by decide, by decide +kernel⟩ ⟨(Nat.le_of_ble_eq_true rfl), (Nat.le_of_ble_eq_true rfl)⟩ rfl hl.1 rfl (Nat.le_of_ble_eq_true rfl) dL_law_323 zx (fun r2 s1 H locs hφ hE hT => ?_)
  obtain ⟨f3, f4, f5⟩ := hφ
  rw [etx] at f3
  rw [etx] at f5
  have R6 := hR.ext hE ⟨rfl, rfl, fun _ => rfl, fun _ => rfl, fun _ => rfl, fun _ => rfl⟩
  have j7 : zI s1 rB = zI σ rB := (show zI s1 rB = zI σ rB from funext fun k => (hTo.k trB (by decide)).eI hE (by decide) rfl)
  have j8 : zI s1 rT = zI σ rT := (show zI s1 rT = zI σ rT from funext fun k => (hTo.k trT (by decide)).eI hE (by decide) rfl)
  have j9 : zI s1 rK = zI σ rK := (show zI s1 rK = zI σ rK from funext fun k => (hTo.k trK (by decide)).eI hE (by decide) rfl)
  have j10 : zI s1 mm 15 = zI σ mm 15 := (hTo.k t_mm (by decide)).eI hE (by decide) rfl
  have j11 : zI s1 mm 16 = zI σ mm 16 := (hTo.k t_mm (by decide)).eI hE (by decide) rfl
  have f49 := f4
  try rw [etr] at f49
  try rw [enw] at f49
  have n12 : zI s1 sl0 7 = zI σ sl0 7 ∧ zI s1 sl0 8 = zI σ sl0 8 ∧ zI s1 sl0 9 = zI σ sl0 9 := f49 sl0 (fun q => d_n0 q.symm) (hTo.k tsl0 (by decide))
  have n13 : zI s1 sl1 7 = zI σ sl1 7 ∧ zI s1 sl1 8 = zI σ sl1 8 ∧ zI s1 sl1 9 = zI σ sl1 9 := f49 sl1 (fun q => d_n1 q.symm) (hTo.k tsl1 (by decide))
  have n14 : ∀ j : Nat, j < 3 → zJ s1 rW j = zJ σ rW j := fun j hj => (hTo.k trW (by decide)).eJ hE (by decide) rfl
  have n15 : zJ s1 rS = zJ σ rS := (show zJ s1 rS = zJ σ rS from funext fun k => (hTo.k trS (by decide)).eJ hE (by decide) rfl)
  have z16 : zI s1 mm 7 = zI σ mm 7 ∧ zI s1 mm 8 = zI σ mm 8 ∧ zI s1 r5 = zI σ r5 ∧ zI s1 r6 = zI σ r6 := ⟨(hTo.k t_mm (by decide)).eI hE (by decide) rfl, (hTo.k t_mm (by decide)).eI hE (by decide) rfl, funext fun q9 => (hTo.k tr5 (by decide)).eI hE (by decide) rfl, funext fun q9 => (hTo.k tr6 (by decide)).eI hE (by decide) rfl⟩
  rw [erI] at f5
  obtain ⟨x9, co, po, rds9, f5⟩ := f5
  have ar1 : (r2.toInt = 0 ∧ co = 0 ∧ (zJ s1 out 0).toInt = po ∧ (zI s1 tx 2).toInt = 0 ∧ (zI s1 tx 3).toInt = -1) ∨ (r2.toInt = 1 ∧ co ≠ 0 ∧ (zI s1 tx 2).toInt = co ∧ (zI s1 tx 3).toInt = po) := f5.elim (fun q9 => Or.inl ⟨q9.1, q9.2.1, q9.2.2.1, q9.2.2.2.1, q9.2.2.2.2.1⟩) (fun q9 => Or.inr ⟨q9.1, q9.2.1, q9.2.2.1, q9.2.2.2.1⟩)
  rw [enw] at f5
  have as1 : (co = 0 ∧ (zI s1 nw 7).toInt = x9.2.2.2.2 0 ∧ (zI s1 nw 8).toInt = x9.2.2.2.2 1 ∧ (zI s1 nw 9).toInt = x9.2.2.2.2 2) ∨ (co ≠ 0 ∧ (zI s1 nw 7).toInt = (zI σ nw 7).toInt ∧ (zI s1 nw 8).toInt = (zI σ nw 8).toInt ∧ (zI s1 nw 9).toInt = (zI σ nw 9).toInt) := f5.elim (fun q9 => Or.inl ⟨q9.2.1, q9.2.2.2.2.2.2.1, q9.2.2.2.2.2.2.2.1, q9.2.2.2.2.2.2.2.2.1⟩) (fun q9 => Or.inr ⟨q9.2.1, congrArg Int32.toInt q9.2.2.2.2.2.1, congrArg Int32.toInt q9.2.2.2.2.2.2.1, congrArg Int32.toInt q9.2.2.2.2.2.2.2.1⟩)
  rw [eso, eqP, eqO] at f5
  have zb9 := (hT.P (show zk s1 so 4 from hT.k tso (by decide)) (by decide)).1
  have cm1 : (co = 0 ∧ (zI s1 so 2).toInt = po ∧ (zI s1 so 6).toInt = x9.2.2.2.2 3 ∧ usP (zI s1 qP) po.toNat x9.2.2.2.2 ∧ usO (zI s1 qO) po.toNat x9.2.2.2.2 ∧ usB po.toNat x9.2.2.2.2) ∨ (co ≠ 0 ∧ zI s1 so 2 = zI σ so 2 ∧ zI s1 so 6 = zI σ so 6 ∧ zI s1 qP = zI σ qP ∧ zI s1 qO = zI σ qO) := f5.elim (fun q9 => Or.inl ⟨q9.2.1, q9.2.2.2.2.2.2.2.2.2⟩) (fun q9 => Or.inr ⟨q9.2.1, q9.2.2.2.2.2.2.2.2⟩)
  have a17 : (zI s1 mm 13).toInt = (zI σ mm 13).toInt := by rw [(hTo.k t_mm (by decide)).eI hE (by decide) rfl]
  refine lv_istore (lv' := [(5, .int r2), (4, .int i), (3, .ref out), (2, .ref mm), (1, .ref x), (0, .ref b)]) hx hb dL_law_326 hl (by decide) rfl (fun ls hl => ?_)
  refine lv_aload_n hx hb dL_law_328 rfl (lv_at hl 3 rfl) ?_
  have hTo := hT
  refine tVi (n := 0) (As := []) (rest := []) hx hb hml hown hg hT hK hX (X6s_load l (kX κ) s1 mm (hT.k t_mm (by decide)) R6 (show TXm κ s1 mm (fun j => (zI σ rT j).toInt) (zI σ mm 13).toInt.toNat from ⟨fun j => by show (zI σ rT j).toInt = _; rw [erT, j8], by omega, by omega, hnn⟩)) sub_gLd_fA (mwV k1324 k1325 k1326 k92 k1327) ⟨rfl, by decide, by decide, by decide +kernel⟩ ⟨(Nat.le_of_ble_eq_true rfl), (Nat.le_of_ble_eq_true rfl)⟩ (hT.o20 (hT.k t_mm (by decide))) rfl rfl hl.1 rfl (Nat.le_of_ble_eq_true rfl) dL_law_329 zx (fun r19 s18 H locs hφ hE hT => ?_)
  obtain ⟨f20, f21, f22⟩ := hφ
  have a23 : (zI s18 tx 1).toInt = (zI s1 tx 1).toInt := by rw [(hTo.k ttx (by decide)).eI hE (by decide) rfl]
  have j24 : zI s18 rB = zI σ rB := ((show zI s18 rB = zI s1 rB from funext fun k => (hTo.k trB (by decide)).eI hE (by decide) rfl)).trans j7
  have j25 : zI s18 rT = zI σ rT := ((show zI s18 rT = zI s1 rT from funext fun k => (hTo.k trT (by decide)).eI hE (by decide) rfl)).trans j8
  have j26 : zI s18 rI = zI s1 rI := (show zI s18 rI = zI s1 rI from funext fun k => (hTo.k trI (by decide)).eI hE (by decide) rfl)
  have j27 : zI s18 tx 2 = zI s1 tx 2 := (hTo.k ttx (by decide)).eI hE (by decide) rfl
  have j28 : zI s18 tx 3 = zI s1 tx 3 := (hTo.k ttx (by decide)).eI hE (by decide) rfl
  have n29 : zI s18 nw 7 = zI s1 nw 7 ∧ zI s18 nw 8 = zI s1 nw 8 ∧ zI s18 nw 9 = zI s1 nw 9 := ⟨(hTo.k tnw (by decide)).eI hE (by decide) rfl, (hTo.k tnw (by decide)).eI hE (by decide) rfl, (hTo.k tnw (by decide)).eI hE (by decide) rfl⟩
  have n30 : zI s18 sl0 7 = zI s1 sl0 7 ∧ zI s18 sl0 8 = zI s1 sl0 8 ∧ zI s18 sl0 9 = zI s1 sl0 9 := ⟨(hTo.k tsl0 (by decide)).eI hE (by decide) rfl, (hTo.k tsl0 (by decide)).eI hE (by decide) rfl, (hTo.k tsl0 (by decide)).eI hE (by decide) rfl⟩
  have n31 : zI s18 sl0 7 = zI σ sl0 7 ∧ zI s18 sl0 8 = zI σ sl0 8 ∧ zI s18 sl0 9 = zI σ sl0 9 := ⟨n30.1.trans n12.1, n30.2.1.trans n12.2.1, n30.2.2.trans n12.2.2⟩
  have n32 : zI s18 sl1 7 = zI s1 sl1 7 ∧ zI s18 sl1 8 = zI s1 sl1 8 ∧ zI s18 sl1 9 = zI s1 sl1 9 := ⟨(hTo.k tsl1 (by decide)).eI hE (by decide) rfl, (hTo.k tsl1 (by decide)).eI hE (by decide) rfl, (hTo.k tsl1 (by decide)).eI hE (by decide) rfl⟩
  have n33 : zI s18 sl1 7 = zI σ sl1 7 ∧ zI s18 sl1 8 = zI σ sl1 8 ∧ zI s18 sl1 9 = zI σ sl1 9 := ⟨n32.1.trans n13.1, n32.2.1.trans n13.2.1, n32.2.2.trans n13.2.2⟩
  have n34 : zJ s18 rS = zJ σ rS := (show zJ s18 rS = zJ s1 rS from funext fun k => (hTo.k trS (by decide)).eJ hE (by decide) rfl).trans n15
  have z35 : zI s18 so 2 = zI s1 so 2 ∧ zI s18 so 6 = zI s1 so 6 ∧ zI s18 qP = zI s1 qP ∧ zI s18 qO = zI s1 qO := ⟨(hTo.k tso (by decide)).eI hE (by decide) rfl, (hTo.k tso (by decide)).eI hE (by decide) rfl, funext fun q9 => (hTo.k tqP (by decide)).eI hE (by decide) rfl, funext fun q9 => (hTo.k tqO (by decide)).eI hE (by decide) rfl⟩
  rw [show kR (kX κ) mm 4 = rK from erK] at f22
  obtain ⟨y9, co2, po2, rds8, f22⟩ := f22
  obtain ⟨rfl, rfl, rfl⟩ := uRds_one hal rds9 rds8
  have ar2 : ((zI s18 mm 0).toInt = 0 ∧ co = 0 ∧ r19.toInt = po ∧ (zI s18 mm 15).toInt = 0 ∧ (zI s18 mm 16).toInt = -1) ∨ ((zI s18 mm 0).toInt = 1 ∧ co ≠ 0 ∧ (zI s18 mm 15).toInt = co ∧ (zI s18 mm 16).toInt = po) := f22.elim (fun q9 => Or.inl ⟨q9.1, q9.2.1, q9.2.2.1, q9.2.2.2.1, q9.2.2.2.2.1⟩) (fun q9 => Or.inr ⟨q9.1, q9.2.1, q9.2.2.1, q9.2.2.2.1⟩)
  rw [show kR (kX κ) mm 1 = rW from erW] at f22
  have as2 : (co = 0 ∧ (zJ s18 rW 0).toInt = x9.2.2.2.2 0 ∧ (zJ s18 rW 1).toInt = x9.2.2.2.2 1 ∧ (zJ s18 rW 2).toInt = x9.2.2.2.2 2) ∨ (co ≠ 0 ∧ (zJ s18 rW 0).toInt = (zJ σ rW 0).toInt ∧ (zJ s18 rW 1).toInt = (zJ σ rW 1).toInt ∧ (zJ s18 rW 2).toInt = (zJ σ rW 2).toInt) := f22.elim (fun q9 => Or.inl ⟨q9.2.1, q9.2.2.2.2.2.2.2.1, q9.2.2.2.2.2.2.2.2.1, q9.2.2.2.2.2.2.2.2.2.1⟩) (fun q9 => Or.inr ⟨q9.2.1, congrArg Int64.toInt ((q9.2.2.2.2.2.1 0 (by decide)).trans (n14 0 (by decide))), congrArg Int64.toInt ((q9.2.2.2.2.2.1 1 (by decide)).trans (n14 1 (by decide))), congrArg Int64.toInt ((q9.2.2.2.2.2.1 2 (by decide)).trans (n14 2 (by decide)))⟩)
  rw [show kR (kX κ) mm 5 = r5 from er5, show kR (kX κ) mm 6 = r6 from er6] at f22
  have cm2 : (co = 0 ∧ (zI s18 mm 7).toInt = po ∧ (zI s18 mm 8).toInt = x9.2.2.2.2 3 ∧ usP (zI s18 r5) po.toNat x9.2.2.2.2 ∧ usO (zI s18 r6) po.toNat x9.2.2.2.2 ∧ usB po.toNat x9.2.2.2.2) ∨ (co ≠ 0 ∧ zI s18 mm 7 = zI σ mm 7 ∧ zI s18 mm 8 = zI σ mm 8 ∧ zI s18 r5 = zI σ r5 ∧ zI s18 r6 = zI σ r6) := f22.elim (fun q9 => Or.inl ⟨q9.2.1, q9.2.2.2.2.2.2.2.2.2.2⟩) (fun q9 => Or.inr ⟨q9.2.1, (q9.2.2.2.2.2.2.1).trans z16.1, (q9.2.2.2.2.2.2.2.1).trans z16.2.1, (q9.2.2.2.2.2.2.2.2.1).trans z16.2.2.1, (q9.2.2.2.2.2.2.2.2.2).trans z16.2.2.2⟩)
  refine lv_istore (lv' := [(6, .int r19), (5, .int r2), (4, .int i), (3, .ref out), (2, .ref mm), (1, .ref x), (0, .ref b)]) hx hb dL_law_332 hl (by decide) rfl (fun ls hl => ?_)
  refine lv_goto (tgt := 1432) hx hb dL_law_334 (by decide) ?_
  have sl0f : zI s18 rI 0 ≠ 0 → SLT κ s18 x mm 0 := fun hq => f5.elim (fun c9 => absurd (by first | exact c9.2.2.2.2.2.1 0 (by decide) | (rw [j26]; exact c9.2.2.2.2.2.1 0 (by decide))) hq) (fun c9 => (hsl 0 (by decide) (fun q9 => hq (by rw [erI] at q9; rw [j26, c9.2.2.2.2.1]; exact q9))).tr (by rw [ers5, esl0]; exact n31) (fun j hj => by rw [erS, n34]))
  have sl1f : zI s18 rI 1 ≠ 0 → SLT κ s18 x mm 1 := fun hq => f5.elim (fun c9 => absurd (by first | exact c9.2.2.2.2.2.1 1 (by decide) | (rw [j26]; exact c9.2.2.2.2.2.1 1 (by decide))) hq) (fun c9 => (hsl 1 (by decide) (fun q9 => hq (by rw [erI] at q9; rw [j26, c9.2.2.2.2.1]; exact q9))).tr (by rw [ers5, esl1]; exact n33) (fun j hj => by rw [erS, n34]))
  have v7 := congrArg Int32.toInt n29.1
  have v8 := congrArg Int32.toInt n29.2.1
  have v9 := congrArg Int32.toInt n29.2.2
  have y_c : zI s18 so 2 = zI s1 so 2 ∧ zI s18 so 6 = zI s1 so 6 ∧ zI s18 qP = zI s1 qP ∧ zI s18 qO = zI s1 qO := z35
  have y_m : zI s18 mm 7 = zI s18 mm 7 ∧ zI s18 mm 8 = zI s18 mm 8 ∧ zI s18 r5 = zI s18 r5 ∧ zI s18 r6 = zI s18 r6 := ⟨rfl, rfl, rfl, rfl⟩
  have smf : SMP κ s18 x mm := by
    rcases cm1 with ⟨c0, c1, c2, c3, c4, c5⟩ | ⟨c0, c1, c2, c3, c4⟩ <;> rcases cm2 with ⟨m0, m1, m2, m3, m4, m5⟩ | ⟨m0, m1, m2, m3, m4⟩
    · refine ⟨po.toNat, x9.2.2.2.2, ⟨?_, ?_⟩, ⟨?_, ?_⟩, ⟨?_, ?_⟩, ⟨?_, ?_⟩, c5⟩
      · rw [eso, y_c.1]; omega
      · rw [y_m.1]; omega
      · rw [eso, y_c.2.1]; exact c2
      · rw [y_m.2.1]; exact m2
      · rw [eso, eqP, y_c.2.2.1]; exact c3
      · rw [er5, y_m.2.2.1]; exact m3
      · rw [eso, eqO, y_c.2.2.2]; exact c4
      · rw [er6, y_m.2.2.2]; exact m4
    · exact absurd c0 m0
    · exact absurd m0 c0
    · exact hsm.tr (by rw [eso, eqP, eqO]; exact ⟨y_c.1.trans c1, y_c.2.1.trans c2, y_c.2.2.1.trans c3, y_c.2.2.2.trans c4⟩) (by rw [er5, er6]; exact ⟨y_m.1.trans m1, y_m.2.1.trans m2, y_m.2.2.1.trans m3, y_m.2.2.2.trans m4⟩)
  exact KK s18 _ _ _ hT f20 ⟨by rw [etx]; omega, ⟨by rw [etx, erB, erT, j24, j25]; exact tal_less hal (by omega), by rw [erT, j25]; exact tnn_less hnn (by omega)⟩, ⟨by rw [etx, j27]; omega, by rw [etx, j28]; omega⟩, fun i hi => by rw [erI, erK, j26]; exact f5.elim (fun c9 => f22.elim (fun m9 => (c9.2.2.2.2.2.1 i hi).trans (by rcases (show i = 0 ∨ i = 1 by omega) with rfl | rfl; exact m9.2.2.2.2.2.1.symm; exact m9.2.2.2.2.2.2.1.symm)) (fun m9 => absurd c9.2.1 m9.2.1)) (fun c9 => f22.elim (fun m9 => absurd m9.2.1 c9.2.1) (fun m9 => by rw [c9.2.2.2.2.1, m9.2.2.2.2.1, j9]; exact hkp i hi))⟩ (⟨⟨by rw [enw, erW]; omega, by rw [enw, erW]; omega, by rw [enw, erW]; omega⟩, fun i hi => (show i = 0 ∨ i = 1 by omega).elim (fun e9 => by rw [e9, erI]; exact sl0f) (fun e9 => by rw [e9, erI]; exact sl1f)⟩) (smf) (lv_sub hl [2, 3, 4, 5, 6] rfl)
set_option maxHeartbeats 4000000 in
set_option maxRecDepth 100000 in
theorem lc_3 (l : Launch) (κ : Kt) (σ0 : Gh) (x mm out b : Nat) (t_x : zk σ0 x 7) (t_mm : zk σ0 mm 20) (t_out : zk σ0 out 24) (ttx0 : zk σ0 (kR κ x 0) 6) (hdis : DIS κ x) (hlt : l.stackTraces = false) {p : Program} {e : Env} {s : State} {m : MethodId} {below : List Frame} {meth : Method} {c : Code} {L : Nat} {xs : Nat → Int32} {i : Int32} {Q9 : State → Prop} (hx : p.tables.exec = Jvm.exec) (hb : c.code = cL_law) (hml : c.maxLocals = 9) (hown : s.vm.findClass RL = some m.cls) (hg : ∀ w ∈ GW, w.before #[Value.ref b] s = true) (hK : va_K κ.1 vwCl (kTy κ) s) (hX : XY κ (tA σ0 s.heap.size) s s.heap) (hXs : va_X b L xs s s.heap) (hbl : b < s.heap.size) (hbA : ¬ tA σ0 s.heap.size b) (zx : zroomX κ s room_1 601024 7293034) (hi0 : 0 ≤ i.toInt) (hi1 : i.toInt + 6 ≤ L) (hL9 : L ≤ 3072) {σ : Gh} {H : Heap} {locs : List Loc} {ls : Array Slot} (hT : TS κ fA σ0 σ s H locs) (hR : RI κ σ mm) (hrel : LREL κ σ x mm) (hsr : SREL κ σ x mm) (hsm : SMP κ σ x mm) (hl : lv_has ls 9 [(4, .int i), (3, .ref out), (2, .ref mm), (1, .ref x), (0, .ref b)]) (KK : ∀ (σ1 : Gh) (H : Heap) (locs : List Loc) (ls : Array Slot), TS (kX κ) fA σ0 σ1 s H locs → RI (kX κ) σ1 mm → LREL κ σ1 x mm → SREL κ σ1 x mm → SMP κ σ1 x mm → lv_has ls 9 [(4, .int i), (3, .ref out), (2, .ref mm), (1, .ref x), (0, .ref b)] → W p l e room_1 s m #[Value.ref b] below meth c H locs 601024 7293034 Q9 (F0 m 1432 ls [])) : W p l e room_1 s m #[Value.ref b] below meth c H locs 601024 7293034 Q9 (F0 m 337 ls []) := by
  obtain ⟨y1, hy1⟩ : ∃ z, z = xs (ix i + 1) := ⟨_, rfl⟩
  obtain ⟨y2, hy2⟩ : ∃ z, z = xs (ix i + 2) := ⟨_, rfl⟩
  obtain ⟨y3, hy3⟩ : ∃ z, z = xs (ix i + 3) := ⟨_, rfl⟩
  obtain ⟨y4, hy4⟩ : ∃ z, z = xs (ix i + 4) := ⟨_, rfl⟩
  obtain ⟨y5, hy5⟩ : ∃ z, z = xs (ix i + 5) := ⟨_, rfl⟩
  have n0 : (0 : Int32).toInt = 0 := by decide
  have n1 : (1 : Int32).toInt = 1 := by decide
  have n2 : (2 : Int32).toInt = 2 := by decide
  have n3 : (3 : Int32).toInt = 3 := by decide
  have n4 : (4 : Int32).toInt = 4 := by decide
  have n5 : (5 : Int32).toInt = 5 := by decide
  obtain ⟨tx, etx⟩ : ∃ z, kR κ x 0 = z := ⟨_, rfl⟩
  have ttx : zk σ0 tx 6 := by rw [← etx]; exact ttx0
  obtain ⟨rB, erB⟩ : ∃ z, kR κ tx 0 = z := ⟨_, rfl⟩
  have trB : zk σ0 rB 14 := by rw [← erB]; exact hT.kr (hT.ref (hT.k ttx (by decide)) (by decide) (by decide) (by decide)) (by decide) (by decide)
  obtain ⟨rT, erT⟩ : ∃ z, kR κ mm 12 = z := ⟨_, rfl⟩
  have trT : zk σ0 rT 23 := by rw [← erT]; exact hT.kr (hT.ref (hT.k t_mm (by decide)) (by decide) (by decide) (by decide)) (by decide) (by decide)
  obtain ⟨rI, erI⟩ : ∃ z, kR κ x 6 = z := ⟨_, rfl⟩
  have trI : zk σ0 rI 13 := by rw [← erI]; exact hT.kr (hT.ref (hT.k t_x (by decide)) (by decide) (by decide) (by decide)) (by decide) (by decide)
  obtain ⟨rK, erK⟩ : ∃ z, kR κ mm 4 = z := ⟨_, rfl⟩
  have trK : zk σ0 rK 29 := by rw [← erK]; exact hT.kr (hT.ref (hT.k t_mm (by decide)) (by decide) (by decide) (by decide)) (by decide) (by decide)
  obtain ⟨hlen, ⟨hal, hnn⟩, ⟨hco, hpo⟩, hkp⟩ := hrel
  rw [etx] at hlen hal hco hpo
  rw [erB, erT] at hal
  rw [erT] at hnn
  rw [erI, erK] at hkp
  have btx := (hT.P (hT.k ttx (by decide)) (by decide)).1
  have btxl := btx.1
  have btxh := btx.2
  obtain ⟨nw, enw⟩ : ∃ z, kR κ x 3 = z := ⟨_, rfl⟩
  have tnw : zk σ0 nw 3 := by rw [← enw]; exact hT.kr (hT.ref (hT.k t_x (by decide)) (by decide) (by decide) (by decide)) (by decide) (by decide)
  obtain ⟨tr, etr⟩ : ∃ z, kR κ x 4 = z := ⟨_, rfl⟩
  have ttr : zk σ0 tr 3 := by rw [← etr]; exact hT.kr (hT.ref (hT.k t_x (by decide)) (by decide) (by decide) (by decide)) (by decide) (by decide)
  obtain ⟨rs5, ers5⟩ : ∃ z, kR κ x 5 = z := ⟨_, rfl⟩
  have trs5 : zk σ0 rs5 12 := by rw [← ers5]; exact hT.kr (hT.ref (hT.k t_x (by decide)) (by decide) (by decide) (by decide)) (by decide) (by decide)
  obtain ⟨sl0, esl0⟩ : ∃ z, kR κ rs5 0 = z := ⟨_, rfl⟩
  have tsl0 : zk σ0 sl0 3 := by rw [← esl0]; exact hT.kr (hT.ref (hT.k trs5 (by decide)) (by decide) (by decide) (by decide)) (by decide) (by decide)
  obtain ⟨sl1, esl1⟩ : ∃ z, kR κ rs5 1 = z := ⟨_, rfl⟩
  have tsl1 : zk σ0 sl1 3 := by rw [← esl1]; exact hT.kr (hT.ref (hT.k trs5 (by decide)) (by decide) (by decide) (by decide)) (by decide) (by decide)
  obtain ⟨rW, erW⟩ : ∃ z, kR κ mm 1 = z := ⟨_, rfl⟩
  have trW : zk σ0 rW 21 := by rw [← erW]; exact hT.kr (hT.ref (hT.k t_mm (by decide)) (by decide) (by decide) (by decide)) (by decide) (by decide)
  obtain ⟨rS, erS⟩ : ∃ z, kR κ mm 3 = z := ⟨_, rfl⟩
  have trS : zk σ0 rS 22 := by rw [← erS]; exact hT.kr (hT.ref (hT.k t_mm (by decide)) (by decide) (by decide) (by decide)) (by decide) (by decide)
  obtain ⟨so, eso⟩ : ∃ z, kR κ x 1 = z := ⟨_, rfl⟩
  have tso : zk σ0 so 4 := by rw [← eso]; exact hT.kr (hT.ref (hT.k t_x (by decide)) (by decide) (by decide) (by decide)) (by decide) (by decide)
  obtain ⟨qP, eqP⟩ : ∃ z, kR κ so 0 = z := ⟨_, rfl⟩
  have tqP : zk σ0 qP 8 := by rw [← eqP]; exact hT.kr (hT.ref (hT.k tso (by decide)) (by decide) (by decide) (by decide)) (by decide) (by decide)
  obtain ⟨qO, eqO⟩ : ∃ z, kR κ so 1 = z := ⟨_, rfl⟩
  have tqO : zk σ0 qO 16 := by rw [← eqO]; exact hT.kr (hT.ref (hT.k tso (by decide)) (by decide) (by decide) (by decide)) (by decide) (by decide)
  obtain ⟨r5, er5⟩ : ∃ z, kR κ mm 5 = z := ⟨_, rfl⟩
  have tr5 : zk σ0 r5 25 := by rw [← er5]; exact hT.kr (hT.ref (hT.k t_mm (by decide)) (by decide) (by decide) (by decide)) (by decide) (by decide)
  obtain ⟨r6, er6⟩ : ∃ z, kR κ mm 6 = z := ⟨_, rfl⟩
  have tr6 : zk σ0 r6 26 := by rw [← er6]; exact hT.kr (hT.ref (hT.k t_mm (by decide)) (by decide) (by decide) (by decide)) (by decide) (by decide)
  obtain ⟨hnw, hsl⟩ := hsr
  obtain ⟨hd1, ⟨hd2, hd3⟩, hd4, hd5, hd6, hd7⟩ := hdis
  have d_nt : nw ≠ tr := by rw [← enw, ← etr]; exact hd2
  have d_n0 : nw ≠ sl0 := by rw [← enw, ← esl0, ← ers5]; exact hd3 0 (by decide)
  have d_t0 : sl0 ≠ tr := by rw [← etr, ← esl0, ← ers5]; exact fun q => hd4 0 (by decide) q.symm
  have d_n1 : nw ≠ sl1 := by rw [← enw, ← esl1, ← ers5]; exact hd3 1 (by decide)
  have d_t1 : sl1 ≠ tr := by rw [← etr, ← esl1, ← ers5]; exact fun q => hd4 1 (by decide) q.symm
  have d_01 : sl0 ≠ sl1 := by rw [← esl0, ← esl1, ← ers5]; exact hd5
  have knw : zk σ nw 3 := hT.k tnw (by decide)
  have ksl0 : zk σ sl0 3 := hT.k tsl0 (by decide)
  have ksl1 : zk σ sl1 3 := hT.k tsl1 (by decide)
  refine lv_aload_n hx hb dL_law_337 rfl (lv_at hl 3 rfl) ?_
  have hTo := hT
  refine tVi (n := 0) (As := []) (rest := []) hx hb hml hown hg hT hK hX (X5s_errorCode l κ σ x (hT.k t_x (by decide))) sub_fE_fA (mwV k423 k424 k425 k84 k426) ⟨rfl, by decide, by decide, by decide +kernel⟩ ⟨(Nat.le_of_ble_eq_true rfl), (Nat.le_of_ble_eq_true rfl)⟩ (hT.o7 (hT.k t_x (by decide))) rfl rfl hl.1 rfl (Nat.le_of_ble_eq_true rfl) dL_law_338 zx.dn (fun r2 s1 H locs hφ hE hT => ?_)
  have f3 := hφ
  rw [etx] at f3
  have R4 := hR.ext hE ⟨rfl, rfl, fun _ => rfl, fun _ => rfl, fun _ => rfl, fun _ => rfl⟩
  have a5 : (zI s1 tx 1).toInt = (zI σ tx 1).toInt := by rw [(hTo.k ttx (by decide)).eI hE (by decide) rfl]
  have j6 : zI s1 rB = zI σ rB := (show zI s1 rB = zI σ rB from funext fun k => (hTo.k trB (by decide)).eI hE (by decide) rfl)
  have j7 : zI s1 rT = zI σ rT := (show zI s1 rT = zI σ rT from funext fun k => (hTo.k trT (by decide)).eI hE (by decide) rfl)
  have j8 : zI s1 rI = zI σ rI := (show zI s1 rI = zI σ rI from funext fun k => (hTo.k trI (by decide)).eI hE (by decide) rfl)
  have j9 : zI s1 rK = zI σ rK := (show zI s1 rK = zI σ rK from funext fun k => (hTo.k trK (by decide)).eI hE (by decide) rfl)
  have j10 : zI s1 tx 2 = zI σ tx 2 := (hTo.k ttx (by decide)).eI hE (by decide) rfl
  have j11 : zI s1 tx 3 = zI σ tx 3 := (hTo.k ttx (by decide)).eI hE (by decide) rfl
  have j12 : zI s1 mm 15 = zI σ mm 15 := (hTo.k t_mm (by decide)).eI hE (by decide) rfl
  have j13 : zI s1 mm 16 = zI σ mm 16 := (hTo.k t_mm (by decide)).eI hE (by decide) rfl
  have n14 : zI s1 nw 7 = zI σ nw 7 ∧ zI s1 nw 8 = zI σ nw 8 ∧ zI s1 nw 9 = zI σ nw 9 := ⟨(hTo.k tnw (by decide)).eI hE (by decide) rfl, (hTo.k tnw (by decide)).eI hE (by decide) rfl, (hTo.k tnw (by decide)).eI hE (by decide) rfl⟩
  have n15 : zI s1 sl0 7 = zI σ sl0 7 ∧ zI s1 sl0 8 = zI σ sl0 8 ∧ zI s1 sl0 9 = zI σ sl0 9 := ⟨(hTo.k tsl0 (by decide)).eI hE (by decide) rfl, (hTo.k tsl0 (by decide)).eI hE (by decide) rfl, (hTo.k tsl0 (by decide)).eI hE (by decide) rfl⟩
  have n16 : zI s1 sl1 7 = zI σ sl1 7 ∧ zI s1 sl1 8 = zI σ sl1 8 ∧ zI s1 sl1 9 = zI σ sl1 9 := ⟨(hTo.k tsl1 (by decide)).eI hE (by decide) rfl, (hTo.k tsl1 (by decide)).eI hE (by decide) rfl, (hTo.k tsl1 (by decide)).eI hE (by decide) rfl⟩
  have n17 : ∀ j : Nat, j < 3 → zJ s1 rW j = zJ σ rW j := fun j hj => (hTo.k trW (by decide)).eJ hE (by decide) rfl
  have n18 : zJ s1 rS = zJ σ rS := (show zJ s1 rS = zJ σ rS from funext fun k => (hTo.k trS (by decide)).eJ hE (by decide) rfl)
  have z19 : zI s1 so 2 = zI σ so 2 ∧ zI s1 so 6 = zI σ so 6 ∧ zI s1 qP = zI σ qP ∧ zI s1 qO = zI σ qO := ⟨(hTo.k tso (by decide)).eI hE (by decide) rfl, (hTo.k tso (by decide)).eI hE (by decide) rfl, funext fun q9 => (hTo.k tqP (by decide)).eI hE (by decide) rfl, funext fun q9 => (hTo.k tqO (by decide)).eI hE (by decide) rfl⟩
  have z20 : zI s1 mm 7 = zI σ mm 7 ∧ zI s1 mm 8 = zI σ mm 8 ∧ zI s1 r5 = zI σ r5 ∧ zI s1 r6 = zI σ r6 := ⟨(hTo.k t_mm (by decide)).eI hE (by decide) rfl, (hTo.k t_mm (by decide)).eI hE (by decide) rfl, funext fun q9 => (hTo.k tr5 (by decide)).eI hE (by decide) rfl, funext fun q9 => (hTo.k tr6 (by decide)).eI hE (by decide) rfl⟩
  have g21 : r2.toInt = (zI σ tx 2).toInt := by rw [f3]
  have a22 : (zI s1 mm 13).toInt = (zI σ mm 13).toInt := by rw [(hTo.k t_mm (by decide)).eI hE (by decide) rfl]
  refine lv_pop hx hb dL_law_341 rfl ?_
  refine lv_aload_n hx hb dL_law_342 rfl (lv_at hl 2 rfl) ?_
  have hTo := hT
  refine tVi (n := 0) (As := []) (rest := []) hx hb hml hown hg hT hK hX (X6s_errorCode l κ s1 mm (hT.k t_mm (by decide)) R4) sub_gR_fA (mwV k1399 k1400 k1401 k92 k1402) ⟨rfl, by decide, by decide, by decide +kernel⟩ ⟨(Nat.le_of_ble_eq_true rfl), (Nat.le_of_ble_eq_true rfl)⟩ (hT.o20 (hT.k t_mm (by decide))) rfl rfl hl.1 rfl (Nat.le_of_ble_eq_true rfl) dL_law_343 zx.dn (fun r24 s23 H locs hφ hE hT => ?_)
  have f25 := hφ
  have R26 := R4.ext hE ⟨rfl, rfl, fun _ => rfl, fun _ => rfl, fun _ => rfl, fun _ => rfl⟩
  have a27 : (zI s23 tx 1).toInt = (zI s1 tx 1).toInt := by rw [(hTo.k ttx (by decide)).eI hE (by decide) rfl]
  have j28 : zI s23 rB = zI σ rB := ((show zI s23 rB = zI s1 rB from funext fun k => (hTo.k trB (by decide)).eI hE (by decide) rfl)).trans j6
  have j29 : zI s23 rT = zI σ rT := ((show zI s23 rT = zI s1 rT from funext fun k => (hTo.k trT (by decide)).eI hE (by decide) rfl)).trans j7
  have j30 : zI s23 rI = zI σ rI := ((show zI s23 rI = zI s1 rI from funext fun k => (hTo.k trI (by decide)).eI hE (by decide) rfl)).trans j8
  have j31 : zI s23 rK = zI σ rK := ((show zI s23 rK = zI s1 rK from funext fun k => (hTo.k trK (by decide)).eI hE (by decide) rfl)).trans j9
  have j32 : zI s23 tx 2 = zI σ tx 2 := ((hTo.k ttx (by decide)).eI hE (by decide) rfl).trans j10
  have j33 : zI s23 tx 3 = zI σ tx 3 := ((hTo.k ttx (by decide)).eI hE (by decide) rfl).trans j11
  have j34 : zI s23 mm 15 = zI σ mm 15 := ((hTo.k t_mm (by decide)).eI hE (by decide) rfl).trans j12
  have j35 : zI s23 mm 16 = zI σ mm 16 := ((hTo.k t_mm (by decide)).eI hE (by decide) rfl).trans j13
  have n36 : zI s23 nw 7 = zI s1 nw 7 ∧ zI s23 nw 8 = zI s1 nw 8 ∧ zI s23 nw 9 = zI s1 nw 9 := ⟨(hTo.k tnw (by decide)).eI hE (by decide) rfl, (hTo.k tnw (by decide)).eI hE (by decide) rfl, (hTo.k tnw (by decide)).eI hE (by decide) rfl⟩
  have n37 : zI s23 nw 7 = zI σ nw 7 ∧ zI s23 nw 8 = zI σ nw 8 ∧ zI s23 nw 9 = zI σ nw 9 := ⟨n36.1.trans n14.1, n36.2.1.trans n14.2.1, n36.2.2.trans n14.2.2⟩
  have n38 : zI s23 sl0 7 = zI s1 sl0 7 ∧ zI s23 sl0 8 = zI s1 sl0 8 ∧ zI s23 sl0 9 = zI s1 sl0 9 := ⟨(hTo.k tsl0 (by decide)).eI hE (by decide) rfl, (hTo.k tsl0 (by decide)).eI hE (by decide) rfl, (hTo.k tsl0 (by decide)).eI hE (by decide) rfl⟩
  have n39 : zI s23 sl0 7 = zI σ sl0 7 ∧ zI s23 sl0 8 = zI σ sl0 8 ∧ zI s23 sl0 9 = zI σ sl0 9 := ⟨n38.1.trans n15.1, n38.2.1.trans n15.2.1, n38.2.2.trans n15.2.2⟩
  have n40 : zI s23 sl1 7 = zI s1 sl1 7 ∧ zI s23 sl1 8 = zI s1 sl1 8 ∧ zI s23 sl1 9 = zI s1 sl1 9 := ⟨(hTo.k tsl1 (by decide)).eI hE (by decide) rfl, (hTo.k tsl1 (by decide)).eI hE (by decide) rfl, (hTo.k tsl1 (by decide)).eI hE (by decide) rfl⟩
  have n41 : zI s23 sl1 7 = zI σ sl1 7 ∧ zI s23 sl1 8 = zI σ sl1 8 ∧ zI s23 sl1 9 = zI σ sl1 9 := ⟨n40.1.trans n16.1, n40.2.1.trans n16.2.1, n40.2.2.trans n16.2.2⟩
  have n42 : ∀ j : Nat, j < 3 → zJ s23 rW j = zJ s1 rW j := fun j hj => (hTo.k trW (by decide)).eJ hE (by decide) rfl
  have n43 : ∀ j : Nat, j < 3 → zJ s23 rW j = zJ σ rW j := fun j hj => (n42 j hj).trans (n17 j hj)
  have n44 : zJ s23 rS = zJ σ rS := (show zJ s23 rS = zJ s1 rS from funext fun k => (hTo.k trS (by decide)).eJ hE (by decide) rfl).trans n18
  have z45 : zI s23 so 2 = zI s1 so 2 ∧ zI s23 so 6 = zI s1 so 6 ∧ zI s23 qP = zI s1 qP ∧ zI s23 qO = zI s1 qO := ⟨(hTo.k tso (by decide)).eI hE (by decide) rfl, (hTo.k tso (by decide)).eI hE (by decide) rfl, funext fun q9 => (hTo.k tqP (by decide)).eI hE (by decide) rfl, funext fun q9 => (hTo.k tqO (by decide)).eI hE (by decide) rfl⟩
  have z46 : zI s23 so 2 = zI σ so 2 ∧ zI s23 so 6 = zI σ so 6 ∧ zI s23 qP = zI σ qP ∧ zI s23 qO = zI σ qO := ⟨z45.1.trans z19.1, z45.2.1.trans z19.2.1, z45.2.2.1.trans z19.2.2.1, z45.2.2.2.trans z19.2.2.2⟩
  have z47 : zI s23 mm 7 = zI s1 mm 7 ∧ zI s23 mm 8 = zI s1 mm 8 ∧ zI s23 r5 = zI s1 r5 ∧ zI s23 r6 = zI s1 r6 := ⟨(hTo.k t_mm (by decide)).eI hE (by decide) rfl, (hTo.k t_mm (by decide)).eI hE (by decide) rfl, funext fun q9 => (hTo.k tr5 (by decide)).eI hE (by decide) rfl, funext fun q9 => (hTo.k tr6 (by decide)).eI hE (by decide) rfl⟩
  have z48 : zI s23 mm 7 = zI σ mm 7 ∧ zI s23 mm 8 = zI σ mm 8 ∧ zI s23 r5 = zI σ r5 ∧ zI s23 r6 = zI σ r6 := ⟨z47.1.trans z20.1, z47.2.1.trans z20.2.1, z47.2.2.1.trans z20.2.2.1, z47.2.2.2.trans z20.2.2.2⟩
  have g49 : r24.toInt = (zI σ mm 15).toInt := by rw [f25, j12]
  have a50 : (zI s23 mm 13).toInt = (zI s1 mm 13).toInt := by rw [(hTo.k t_mm (by decide)).eI hE (by decide) rfl]
  refine lv_pop hx hb dL_law_346 rfl ?_
  refine lv_goto (tgt := 1432) hx hb dL_law_347 (by decide) ?_
  have sl0f : zI s23 rI 0 ≠ 0 → SLT κ s23 x mm 0 := fun hq => (hsl 0 (by decide) (fun q9 => hq (by rw [erI] at q9; rw [j30]; exact q9))).tr (by rw [ers5, esl0]; exact n39) (fun j hj => by rw [erS, n44])
  have sl1f : zI s23 rI 1 ≠ 0 → SLT κ s23 x mm 1 := fun hq => (hsl 1 (by decide) (fun q9 => hq (by rw [erI] at q9; rw [j30]; exact q9))).tr (by rw [ers5, esl1]; exact n41) (fun j hj => by rw [erS, n44])
  exact KK s23 _ _ _ hT.up R26 ⟨by rw [etx]; omega, ⟨by rw [etx, erB, erT, j28, j29]; exact tal_less hal (by omega), by rw [erT, j29]; exact tnn_less hnn (by omega)⟩, ⟨by rw [etx, j32, j34]; exact hco, by rw [etx, j33, j35]; exact hpo⟩, fun i hi => by rw [erI, erK, j30, j31]; exact hkp i hi⟩ (⟨hnw.tr (by rw [enw]; exact n37) (by rw [erW]; exact n43), fun i hi => (show i = 0 ∨ i = 1 by omega).elim (fun e9 => by rw [e9, erI]; exact sl0f) (fun e9 => by rw [e9, erI]; exact sl1f)⟩) (hsm.tr (by rw [eso, eqP, eqO]; exact z46) (by rw [er5, er6]; exact z48)) (lv_sub hl [0, 1, 2, 3, 4] rfl)
set_option maxHeartbeats 4000000 in
set_option maxRecDepth 100000 in
theorem lc_4 (l : Launch) (κ : Kt) (σ0 : Gh) (x mm out b : Nat) (t_x : zk σ0 x 7) (t_mm : zk σ0 mm 20) (t_out : zk σ0 out 24) (ttx0 : zk σ0 (kR κ x 0) 6) (hdis : DIS κ x) (hlt : l.stackTraces = false) {p : Program} {e : Env} {s : State} {m : MethodId} {below : List Frame} {meth : Method} {c : Code} {L : Nat} {xs : Nat → Int32} {i : Int32} {Q9 : State → Prop} (hx : p.tables.exec = Jvm.exec) (hb : c.code = cL_law) (hml : c.maxLocals = 9) (hown : s.vm.findClass RL = some m.cls) (hg : ∀ w ∈ GW, w.before #[Value.ref b] s = true) (hK : va_K κ.1 vwCl (kTy κ) s) (hX : XY κ (tA σ0 s.heap.size) s s.heap) (hXs : va_X b L xs s s.heap) (hbl : b < s.heap.size) (hbA : ¬ tA σ0 s.heap.size b) (zx : zroomX κ s room_1 601024 7293034) (hi0 : 0 ≤ i.toInt) (hi1 : i.toInt + 6 ≤ L) (hL9 : L ≤ 3072) {σ : Gh} {H : Heap} {locs : List Loc} {ls : Array Slot} (hT : TS κ fA σ0 σ s H locs) (hR : RI κ σ mm) (hrel : LREL κ σ x mm) (hsr : SREL κ σ x mm) (hsm : SMP κ σ x mm) (hl : lv_has ls 9 [(4, .int i), (3, .ref out), (2, .ref mm), (1, .ref x), (0, .ref b)]) (KK : ∀ (σ1 : Gh) (H : Heap) (locs : List Loc) (ls : Array Slot), TS (kX κ) fA σ0 σ1 s H locs → RI (kX κ) σ1 mm → LREL κ σ1 x mm → SREL κ σ1 x mm → SMP κ σ1 x mm → lv_has ls 9 [(4, .int i), (3, .ref out), (2, .ref mm), (1, .ref x), (0, .ref b)] → W p l e room_1 s m #[Value.ref b] below meth c H locs 601024 7293034 Q9 (F0 m 1432 ls [])) : W p l e room_1 s m #[Value.ref b] below meth c H locs 601024 7293034 Q9 (F0 m 350 ls []) := by
  obtain ⟨y1, hy1⟩ : ∃ z, z = xs (ix i + 1) := ⟨_, rfl⟩
  obtain ⟨y2, hy2⟩ : ∃ z, z = xs (ix i + 2) := ⟨_, rfl⟩
  obtain ⟨y3, hy3⟩ : ∃ z, z = xs (ix i + 3) := ⟨_, rfl⟩
  obtain ⟨y4, hy4⟩ : ∃ z, z = xs (ix i + 4) := ⟨_, rfl⟩
  obtain ⟨y5, hy5⟩ : ∃ z, z = xs (ix i + 5) := ⟨_, rfl⟩
  have n0 : (0 : Int32).toInt = 0 := by decide
  have n1 : (1 : Int32).toInt = 1 := by decide
  have n2 : (2 : Int32).toInt = 2 := by decide
  have n3 : (3 : Int32).toInt = 3 := by decide
  have n4 : (4 : Int32).toInt = 4 := by decide
  have n5 : (5 : Int32).toInt = 5 := by decide
  obtain ⟨tx, etx⟩ : ∃ z, kR κ x 0 = z := ⟨_, rfl⟩
  have ttx : zk σ0 tx 6 := by rw [← etx]; exact ttx0
  obtain ⟨rB, erB⟩ : ∃ z, kR κ tx 0 = z := ⟨_, rfl⟩
  have trB : zk σ0 rB 14 := by rw [← erB]; exact hT.kr (hT.ref (hT.k ttx (by decide)) (by decide) (by decide) (by decide)) (by decide) (by decide)
  obtain ⟨rT, erT⟩ : ∃ z, kR κ mm 12 = z := ⟨_, rfl⟩
  have trT : zk σ0 rT 23 := by rw [← erT]; exact hT.kr (hT.ref (hT.k t_mm (by decide)) (by decide) (by decide) (by decide)) (by decide) (by decide)
  obtain ⟨rI, erI⟩ : ∃ z, kR κ x 6 = z := ⟨_, rfl⟩
  have trI : zk σ0 rI 13 := by rw [← erI]; exact hT.kr (hT.ref (hT.k t_x (by decide)) (by decide) (by decide) (by decide)) (by decide) (by decide)
  obtain ⟨rK, erK⟩ : ∃ z, kR κ mm 4 = z := ⟨_, rfl⟩
  have trK : zk σ0 rK 29 := by rw [← erK]; exact hT.kr (hT.ref (hT.k t_mm (by decide)) (by decide) (by decide) (by decide)) (by decide) (by decide)
  obtain ⟨hlen, ⟨hal, hnn⟩, ⟨hco, hpo⟩, hkp⟩ := hrel
  rw [etx] at hlen hal hco hpo
  rw [erB, erT] at hal
  rw [erT] at hnn
  rw [erI, erK] at hkp
  have btx := (hT.P (hT.k ttx (by decide)) (by decide)).1
  have btxl := btx.1
  have btxh := btx.2
  obtain ⟨nw, enw⟩ : ∃ z, kR κ x 3 = z := ⟨_, rfl⟩
  have tnw : zk σ0 nw 3 := by rw [← enw]; exact hT.kr (hT.ref (hT.k t_x (by decide)) (by decide) (by decide) (by decide)) (by decide) (by decide)
  obtain ⟨tr, etr⟩ : ∃ z, kR κ x 4 = z := ⟨_, rfl⟩
  have ttr : zk σ0 tr 3 := by rw [← etr]; exact hT.kr (hT.ref (hT.k t_x (by decide)) (by decide) (by decide) (by decide)) (by decide) (by decide)
  obtain ⟨rs5, ers5⟩ : ∃ z, kR κ x 5 = z := ⟨_, rfl⟩
  have trs5 : zk σ0 rs5 12 := by rw [← ers5]; exact hT.kr (hT.ref (hT.k t_x (by decide)) (by decide) (by decide) (by decide)) (by decide) (by decide)
  obtain ⟨sl0, esl0⟩ : ∃ z, kR κ rs5 0 = z := ⟨_, rfl⟩
  have tsl0 : zk σ0 sl0 3 := by rw [← esl0]; exact hT.kr (hT.ref (hT.k trs5 (by decide)) (by decide) (by decide) (by decide)) (by decide) (by decide)
  obtain ⟨sl1, esl1⟩ : ∃ z, kR κ rs5 1 = z := ⟨_, rfl⟩
  have tsl1 : zk σ0 sl1 3 := by rw [← esl1]; exact hT.kr (hT.ref (hT.k trs5 (by decide)) (by decide) (by decide) (by decide)) (by decide) (by decide)
  obtain ⟨rW, erW⟩ : ∃ z, kR κ mm 1 = z := ⟨_, rfl⟩
  have trW : zk σ0 rW 21 := by rw [← erW]; exact hT.kr (hT.ref (hT.k t_mm (by decide)) (by decide) (by decide) (by decide)) (by decide) (by decide)
  obtain ⟨rS, erS⟩ : ∃ z, kR κ mm 3 = z := ⟨_, rfl⟩
  have trS : zk σ0 rS 22 := by rw [← erS]; exact hT.kr (hT.ref (hT.k t_mm (by decide)) (by decide) (by decide) (by decide)) (by decide) (by decide)
  obtain ⟨so, eso⟩ : ∃ z, kR κ x 1 = z := ⟨_, rfl⟩
  have tso : zk σ0 so 4 := by rw [← eso]; exact hT.kr (hT.ref (hT.k t_x (by decide)) (by decide) (by decide) (by decide)) (by decide) (by decide)
  obtain ⟨qP, eqP⟩ : ∃ z, kR κ so 0 = z := ⟨_, rfl⟩
  have tqP : zk σ0 qP 8 := by rw [← eqP]; exact hT.kr (hT.ref (hT.k tso (by decide)) (by decide) (by decide) (by decide)) (by decide) (by decide)
  obtain ⟨qO, eqO⟩ : ∃ z, kR κ so 1 = z := ⟨_, rfl⟩
  have tqO : zk σ0 qO 16 := by rw [← eqO]; exact hT.kr (hT.ref (hT.k tso (by decide)) (by decide) (by decide) (by decide)) (by decide) (by decide)
  obtain ⟨r5, er5⟩ : ∃ z, kR κ mm 5 = z := ⟨_, rfl⟩
  have tr5 : zk σ0 r5 25 := by rw [← er5]; exact hT.kr (hT.ref (hT.k t_mm (by decide)) (by decide) (by decide) (by decide)) (by decide) (by decide)
  obtain ⟨r6, er6⟩ : ∃ z, kR κ mm 6 = z := ⟨_, rfl⟩
  have tr6 : zk σ0 r6 26 := by rw [← er6]; exact hT.kr (hT.ref (hT.k t_mm (by decide)) (by decide) (by decide) (by decide)) (by decide) (by decide)
  obtain ⟨hnw, hsl⟩ := hsr
  obtain ⟨hd1, ⟨hd2, hd3⟩, hd4, hd5, hd6, hd7⟩ := hdis
  have d_nt : nw ≠ tr := by rw [← enw, ← etr]; exact hd2
  have d_n0 : nw ≠ sl0 := by rw [← enw, ← esl0, ← ers5]; exact hd3 0 (by decide)
  have d_t0 : sl0 ≠ tr := by rw [← etr, ← esl0, ← ers5]; exact fun q => hd4 0 (by decide) q.symm
  have d_n1 : nw ≠ sl1 := by rw [← enw, ← esl1, ← ers5]; exact hd3 1 (by decide)
  have d_t1 : sl1 ≠ tr := by rw [← etr, ← esl1, ← ers5]; exact fun q => hd4 1 (by decide) q.symm
  have d_01 : sl0 ≠ sl1 := by rw [← esl0, ← esl1, ← ers5]; exact hd5
  have knw : zk σ nw 3 := hT.k tnw (by decide)
  have ksl0 : zk σ sl0 3 := hT.k tsl0 (by decide)
  have ksl1 : zk σ sl1 3 := hT.k tsl1 (by decide)
  refine lv_aload_n hx hb dL_law_350 rfl (lv_at hl 3 rfl) ?_
  have hTo := hT
  refine tVi (n := 0) (As := []) (rest := []) hx hb hml hown hg hT hK hX (X5s_errorPosition l κ σ x (hT.k t_x (by decide))) sub_fE_fA (mwV k427 k428 k429 k84 k430) ⟨rfl, by decide, by decide, by decide +kernel⟩ ⟨(Nat.le_of_ble_eq_true rfl), (Nat.le_of_ble_eq_true rfl)⟩ (hT.o7 (hT.k t_x (by decide))) rfl rfl hl.1 rfl (Nat.le_of_ble_eq_true rfl) dL_law_351 zx.dn (fun r2 s1 H locs hφ hE hT => ?_)
  have f3 := hφ
  rw [etx] at f3
  have R4 := hR.ext hE ⟨rfl, rfl, fun _ => rfl, fun _ => rfl, fun _ => rfl, fun _ => rfl⟩
  have a5 : (zI s1 tx 1).toInt = (zI σ tx 1).toInt := by rw [(hTo.k ttx (by decide)).eI hE (by decide) rfl]
  have j6 : zI s1 rB = zI σ rB := (show zI s1 rB = zI σ rB from funext fun k => (hTo.k trB (by decide)).eI hE (by decide) rfl)
  have j7 : zI s1 rT = zI σ rT := (show zI s1 rT = zI σ rT from funext fun k => (hTo.k trT (by decide)).eI hE (by decide) rfl)
  have j8 : zI s1 rI = zI σ rI := (show zI s1 rI = zI σ rI from funext fun k => (hTo.k trI (by decide)).eI hE (by decide) rfl)
  have j9 : zI s1 rK = zI σ rK := (show zI s1 rK = zI σ rK from funext fun k => (hTo.k trK (by decide)).eI hE (by decide) rfl)
  have j10 : zI s1 tx 2 = zI σ tx 2 := (hTo.k ttx (by decide)).eI hE (by decide) rfl
  have j11 : zI s1 tx 3 = zI σ tx 3 := (hTo.k ttx (by decide)).eI hE (by decide) rfl
  have j12 : zI s1 mm 15 = zI σ mm 15 := (hTo.k t_mm (by decide)).eI hE (by decide) rfl
  have j13 : zI s1 mm 16 = zI σ mm 16 := (hTo.k t_mm (by decide)).eI hE (by decide) rfl
  have n14 : zI s1 nw 7 = zI σ nw 7 ∧ zI s1 nw 8 = zI σ nw 8 ∧ zI s1 nw 9 = zI σ nw 9 := ⟨(hTo.k tnw (by decide)).eI hE (by decide) rfl, (hTo.k tnw (by decide)).eI hE (by decide) rfl, (hTo.k tnw (by decide)).eI hE (by decide) rfl⟩
  have n15 : zI s1 sl0 7 = zI σ sl0 7 ∧ zI s1 sl0 8 = zI σ sl0 8 ∧ zI s1 sl0 9 = zI σ sl0 9 := ⟨(hTo.k tsl0 (by decide)).eI hE (by decide) rfl, (hTo.k tsl0 (by decide)).eI hE (by decide) rfl, (hTo.k tsl0 (by decide)).eI hE (by decide) rfl⟩
  have n16 : zI s1 sl1 7 = zI σ sl1 7 ∧ zI s1 sl1 8 = zI σ sl1 8 ∧ zI s1 sl1 9 = zI σ sl1 9 := ⟨(hTo.k tsl1 (by decide)).eI hE (by decide) rfl, (hTo.k tsl1 (by decide)).eI hE (by decide) rfl, (hTo.k tsl1 (by decide)).eI hE (by decide) rfl⟩
  have n17 : ∀ j : Nat, j < 3 → zJ s1 rW j = zJ σ rW j := fun j hj => (hTo.k trW (by decide)).eJ hE (by decide) rfl
  have n18 : zJ s1 rS = zJ σ rS := (show zJ s1 rS = zJ σ rS from funext fun k => (hTo.k trS (by decide)).eJ hE (by decide) rfl)
  have z19 : zI s1 so 2 = zI σ so 2 ∧ zI s1 so 6 = zI σ so 6 ∧ zI s1 qP = zI σ qP ∧ zI s1 qO = zI σ qO := ⟨(hTo.k tso (by decide)).eI hE (by decide) rfl, (hTo.k tso (by decide)).eI hE (by decide) rfl, funext fun q9 => (hTo.k tqP (by decide)).eI hE (by decide) rfl, funext fun q9 => (hTo.k tqO (by decide)).eI hE (by decide) rfl⟩
  have z20 : zI s1 mm 7 = zI σ mm 7 ∧ zI s1 mm 8 = zI σ mm 8 ∧ zI s1 r5 = zI σ r5 ∧ zI s1 r6 = zI σ r6 := ⟨(hTo.k t_mm (by decide)).eI hE (by decide) rfl, (hTo.k t_mm (by decide)).eI hE (by decide) rfl, funext fun q9 => (hTo.k tr5 (by decide)).eI hE (by decide) rfl, funext fun q9 => (hTo.k tr6 (by decide)).eI hE (by decide) rfl⟩
  have g21 : r2.toInt = (zI σ tx 3).toInt := by rw [f3]
  have a22 : (zI s1 mm 13).toInt = (zI σ mm 13).toInt := by rw [(hTo.k t_mm (by decide)).eI hE (by decide) rfl]
  refine lv_pop hx hb dL_law_354 rfl ?_
  refine lv_aload_n hx hb dL_law_355 rfl (lv_at hl 2 rfl) ?_
  have hTo := hT
  refine tVi (n := 0) (As := []) (rest := []) hx hb hml hown hg hT hK hX (X6s_errorPosition l κ s1 mm (hT.k t_mm (by decide)) R4) sub_gR_fA (mwV k1403 k1404 k1405 k92 k1406) ⟨rfl, by decide, by decide, by decide +kernel⟩ ⟨(Nat.le_of_ble_eq_true rfl), (Nat.le_of_ble_eq_true rfl)⟩ (hT.o20 (hT.k t_mm (by decide))) rfl rfl hl.1 rfl (Nat.le_of_ble_eq_true rfl) dL_law_356 zx.dn (fun r24 s23 H locs hφ hE hT => ?_)
  have f25 := hφ
  have R26 := R4.ext hE ⟨rfl, rfl, fun _ => rfl, fun _ => rfl, fun _ => rfl, fun _ => rfl⟩
  have a27 : (zI s23 tx 1).toInt = (zI s1 tx 1).toInt := by rw [(hTo.k ttx (by decide)).eI hE (by decide) rfl]
  have j28 : zI s23 rB = zI σ rB := ((show zI s23 rB = zI s1 rB from funext fun k => (hTo.k trB (by decide)).eI hE (by decide) rfl)).trans j6
  have j29 : zI s23 rT = zI σ rT := ((show zI s23 rT = zI s1 rT from funext fun k => (hTo.k trT (by decide)).eI hE (by decide) rfl)).trans j7
  have j30 : zI s23 rI = zI σ rI := ((show zI s23 rI = zI s1 rI from funext fun k => (hTo.k trI (by decide)).eI hE (by decide) rfl)).trans j8
  have j31 : zI s23 rK = zI σ rK := ((show zI s23 rK = zI s1 rK from funext fun k => (hTo.k trK (by decide)).eI hE (by decide) rfl)).trans j9
  have j32 : zI s23 tx 2 = zI σ tx 2 := ((hTo.k ttx (by decide)).eI hE (by decide) rfl).trans j10
  have j33 : zI s23 tx 3 = zI σ tx 3 := ((hTo.k ttx (by decide)).eI hE (by decide) rfl).trans j11
  have j34 : zI s23 mm 15 = zI σ mm 15 := ((hTo.k t_mm (by decide)).eI hE (by decide) rfl).trans j12
  have j35 : zI s23 mm 16 = zI σ mm 16 := ((hTo.k t_mm (by decide)).eI hE (by decide) rfl).trans j13
  have n36 : zI s23 nw 7 = zI s1 nw 7 ∧ zI s23 nw 8 = zI s1 nw 8 ∧ zI s23 nw 9 = zI s1 nw 9 := ⟨(hTo.k tnw (by decide)).eI hE (by decide) rfl, (hTo.k tnw (by decide)).eI hE (by decide) rfl, (hTo.k tnw (by decide)).eI hE (by decide) rfl⟩
  have n37 : zI s23 nw 7 = zI σ nw 7 ∧ zI s23 nw 8 = zI σ nw 8 ∧ zI s23 nw 9 = zI σ nw 9 := ⟨n36.1.trans n14.1, n36.2.1.trans n14.2.1, n36.2.2.trans n14.2.2⟩
  have n38 : zI s23 sl0 7 = zI s1 sl0 7 ∧ zI s23 sl0 8 = zI s1 sl0 8 ∧ zI s23 sl0 9 = zI s1 sl0 9 := ⟨(hTo.k tsl0 (by decide)).eI hE (by decide) rfl, (hTo.k tsl0 (by decide)).eI hE (by decide) rfl, (hTo.k tsl0 (by decide)).eI hE (by decide) rfl⟩
  have n39 : zI s23 sl0 7 = zI σ sl0 7 ∧ zI s23 sl0 8 = zI σ sl0 8 ∧ zI s23 sl0 9 = zI σ sl0 9 := ⟨n38.1.trans n15.1, n38.2.1.trans n15.2.1, n38.2.2.trans n15.2.2⟩
  have n40 : zI s23 sl1 7 = zI s1 sl1 7 ∧ zI s23 sl1 8 = zI s1 sl1 8 ∧ zI s23 sl1 9 = zI s1 sl1 9 := ⟨(hTo.k tsl1 (by decide)).eI hE (by decide) rfl, (hTo.k tsl1 (by decide)).eI hE (by decide) rfl, (hTo.k tsl1 (by decide)).eI hE (by decide) rfl⟩
  have n41 : zI s23 sl1 7 = zI σ sl1 7 ∧ zI s23 sl1 8 = zI σ sl1 8 ∧ zI s23 sl1 9 = zI σ sl1 9 := ⟨n40.1.trans n16.1, n40.2.1.trans n16.2.1, n40.2.2.trans n16.2.2⟩
  have n42 : ∀ j : Nat, j < 3 → zJ s23 rW j = zJ s1 rW j := fun j hj => (hTo.k trW (by decide)).eJ hE (by decide) rfl
  have n43 : ∀ j : Nat, j < 3 → zJ s23 rW j = zJ σ rW j := fun j hj => (n42 j hj).trans (n17 j hj)
  have n44 : zJ s23 rS = zJ σ rS := (show zJ s23 rS = zJ s1 rS from funext fun k => (hTo.k trS (by decide)).eJ hE (by decide) rfl).trans n18
  have z45 : zI s23 so 2 = zI s1 so 2 ∧ zI s23 so 6 = zI s1 so 6 ∧ zI s23 qP = zI s1 qP ∧ zI s23 qO = zI s1 qO := ⟨(hTo.k tso (by decide)).eI hE (by decide) rfl, (hTo.k tso (by decide)).eI hE (by decide) rfl, funext fun q9 => (hTo.k tqP (by decide)).eI hE (by decide) rfl, funext fun q9 => (hTo.k tqO (by decide)).eI hE (by decide) rfl⟩
  have z46 : zI s23 so 2 = zI σ so 2 ∧ zI s23 so 6 = zI σ so 6 ∧ zI s23 qP = zI σ qP ∧ zI s23 qO = zI σ qO := ⟨z45.1.trans z19.1, z45.2.1.trans z19.2.1, z45.2.2.1.trans z19.2.2.1, z45.2.2.2.trans z19.2.2.2⟩
  have z47 : zI s23 mm 7 = zI s1 mm 7 ∧ zI s23 mm 8 = zI s1 mm 8 ∧ zI s23 r5 = zI s1 r5 ∧ zI s23 r6 = zI s1 r6 := ⟨(hTo.k t_mm (by decide)).eI hE (by decide) rfl, (hTo.k t_mm (by decide)).eI hE (by decide) rfl, funext fun q9 => (hTo.k tr5 (by decide)).eI hE (by decide) rfl, funext fun q9 => (hTo.k tr6 (by decide)).eI hE (by decide) rfl⟩
  have z48 : zI s23 mm 7 = zI σ mm 7 ∧ zI s23 mm 8 = zI σ mm 8 ∧ zI s23 r5 = zI σ r5 ∧ zI s23 r6 = zI σ r6 := ⟨z47.1.trans z20.1, z47.2.1.trans z20.2.1, z47.2.2.1.trans z20.2.2.1, z47.2.2.2.trans z20.2.2.2⟩
  have g49 : r24.toInt = (zI σ mm 16).toInt := by rw [f25, j13]
  have a50 : (zI s23 mm 13).toInt = (zI s1 mm 13).toInt := by rw [(hTo.k t_mm (by decide)).eI hE (by decide) rfl]
  refine lv_pop hx hb dL_law_359 rfl ?_
  refine lv_goto (tgt := 1432) hx hb dL_law_360 (by decide) ?_
  have sl0f : zI s23 rI 0 ≠ 0 → SLT κ s23 x mm 0 := fun hq => (hsl 0 (by decide) (fun q9 => hq (by rw [erI] at q9; rw [j30]; exact q9))).tr (by rw [ers5, esl0]; exact n39) (fun j hj => by rw [erS, n44])
  have sl1f : zI s23 rI 1 ≠ 0 → SLT κ s23 x mm 1 := fun hq => (hsl 1 (by decide) (fun q9 => hq (by rw [erI] at q9; rw [j30]; exact q9))).tr (by rw [ers5, esl1]; exact n41) (fun j hj => by rw [erS, n44])
  exact KK s23 _ _ _ hT.up R26 ⟨by rw [etx]; omega, ⟨by rw [etx, erB, erT, j28, j29]; exact tal_less hal (by omega), by rw [erT, j29]; exact tnn_less hnn (by omega)⟩, ⟨by rw [etx, j32, j34]; exact hco, by rw [etx, j33, j35]; exact hpo⟩, fun i hi => by rw [erI, erK, j30, j31]; exact hkp i hi⟩ (⟨hnw.tr (by rw [enw]; exact n37) (by rw [erW]; exact n43), fun i hi => (show i = 0 ∨ i = 1 by omega).elim (fun e9 => by rw [e9, erI]; exact sl0f) (fun e9 => by rw [e9, erI]; exact sl1f)⟩) (hsm.tr (by rw [eso, eqP, eqO]; exact z46) (by rw [er5, er6]; exact z48)) (lv_sub hl [0, 1, 2, 3, 4] rfl)
set_option maxHeartbeats 4000000 in
set_option maxRecDepth 100000 in
theorem lc_39 (l : Launch) (κ : Kt) (σ0 : Gh) (x mm out b : Nat) (t_x : zk σ0 x 7) (t_mm : zk σ0 mm 20) (t_out : zk σ0 out 24) (ttx0 : zk σ0 (kR κ x 0) 6) (hdis : DIS κ x) (hlt : l.stackTraces = false) {p : Program} {e : Env} {s : State} {m : MethodId} {below : List Frame} {meth : Method} {c : Code} {L : Nat} {xs : Nat → Int32} {i : Int32} {Q9 : State → Prop} (hx : p.tables.exec = Jvm.exec) (hb : c.code = cL_law) (hml : c.maxLocals = 9) (hown : s.vm.findClass RL = some m.cls) (hg : ∀ w ∈ GW, w.before #[Value.ref b] s = true) (hK : va_K κ.1 vwCl (kTy κ) s) (hX : XY κ (tA σ0 s.heap.size) s s.heap) (hXs : va_X b L xs s s.heap) (hbl : b < s.heap.size) (hbA : ¬ tA σ0 s.heap.size b) (zx : zroomX κ s room_1 601024 7293034) (hi0 : 0 ≤ i.toInt) (hi1 : i.toInt + 6 ≤ L) (hL9 : L ≤ 3072) {σ : Gh} {H : Heap} {locs : List Loc} {ls : Array Slot} (hT : TS κ fA σ0 σ s H locs) (hR : RI κ σ mm) (hrel : LREL κ σ x mm) (hsr : SREL κ σ x mm) (hsm : SMP κ σ x mm) (hl : lv_has ls 9 [(4, .int i), (3, .ref out), (2, .ref mm), (1, .ref x), (0, .ref b)]) (KK : ∀ (σ1 : Gh) (H : Heap) (locs : List Loc) (ls : Array Slot), TS (kX κ) fA σ0 σ1 s H locs → RI (kX κ) σ1 mm → LREL κ σ1 x mm → SREL κ σ1 x mm → SMP κ σ1 x mm → lv_has ls 9 [(4, .int i), (3, .ref out), (2, .ref mm), (1, .ref x), (0, .ref b)] → W p l e room_1 s m #[Value.ref b] below meth c H locs 601024 7293034 Q9 (F0 m 1432 ls [])) : W p l e room_1 s m #[Value.ref b] below meth c H locs 601024 7293034 Q9 (F0 m 1382 ls []) := by
  obtain ⟨y1, hy1⟩ : ∃ z, z = xs (ix i + 1) := ⟨_, rfl⟩
  obtain ⟨y2, hy2⟩ : ∃ z, z = xs (ix i + 2) := ⟨_, rfl⟩
  obtain ⟨y3, hy3⟩ : ∃ z, z = xs (ix i + 3) := ⟨_, rfl⟩
  obtain ⟨y4, hy4⟩ : ∃ z, z = xs (ix i + 4) := ⟨_, rfl⟩
  obtain ⟨y5, hy5⟩ : ∃ z, z = xs (ix i + 5) := ⟨_, rfl⟩
  have n0 : (0 : Int32).toInt = 0 := by decide
  have n1 : (1 : Int32).toInt = 1 := by decide
  have n2 : (2 : Int32).toInt = 2 := by decide
  have n3 : (3 : Int32).toInt = 3 := by decide
  have n4 : (4 : Int32).toInt = 4 := by decide
  have n5 : (5 : Int32).toInt = 5 := by decide
  obtain ⟨tx, etx⟩ : ∃ z, kR κ x 0 = z := ⟨_, rfl⟩
  have ttx : zk σ0 tx 6 := by rw [← etx]; exact ttx0
  obtain ⟨rB, erB⟩ : ∃ z, kR κ tx 0 = z := ⟨_, rfl⟩
  have trB : zk σ0 rB 14 := by rw [← erB]; exact hT.kr (hT.ref (hT.k ttx (by decide)) (by decide) (by decide) (by decide)) (by decide) (by decide)
  obtain ⟨rT, erT⟩ : ∃ z, kR κ mm 12 = z := ⟨_, rfl⟩
  have trT : zk σ0 rT 23 := by rw [← erT]; exact hT.kr (hT.ref (hT.k t_mm (by decide)) (by decide) (by decide) (by decide)) (by decide) (by decide)
  obtain ⟨rI, erI⟩ : ∃ z, kR κ x 6 = z := ⟨_, rfl⟩
  have trI : zk σ0 rI 13 := by rw [← erI]; exact hT.kr (hT.ref (hT.k t_x (by decide)) (by decide) (by decide) (by decide)) (by decide) (by decide)
  obtain ⟨rK, erK⟩ : ∃ z, kR κ mm 4 = z := ⟨_, rfl⟩
  have trK : zk σ0 rK 29 := by rw [← erK]; exact hT.kr (hT.ref (hT.k t_mm (by decide)) (by decide) (by decide) (by decide)) (by decide) (by decide)
  obtain ⟨hlen, ⟨hal, hnn⟩, ⟨hco, hpo⟩, hkp⟩ := hrel
  rw [etx] at hlen hal hco hpo
  rw [erB, erT] at hal
  rw [erT] at hnn
  rw [erI, erK] at hkp
  have btx := (hT.P (hT.k ttx (by decide)) (by decide)).1
  have btxl := btx.1
  have btxh := btx.2
  obtain ⟨nw, enw⟩ : ∃ z, kR κ x 3 = z := ⟨_, rfl⟩
  have tnw : zk σ0 nw 3 := by rw [← enw]; exact hT.kr (hT.ref (hT.k t_x (by decide)) (by decide) (by decide) (by decide)) (by decide) (by decide)
  obtain ⟨tr, etr⟩ : ∃ z, kR κ x 4 = z := ⟨_, rfl⟩
  have ttr : zk σ0 tr 3 := by rw [← etr]; exact hT.kr (hT.ref (hT.k t_x (by decide)) (by decide) (by decide) (by decide)) (by decide) (by decide)
  obtain ⟨rs5, ers5⟩ : ∃ z, kR κ x 5 = z := ⟨_, rfl⟩
  have trs5 : zk σ0 rs5 12 := by rw [← ers5]; exact hT.kr (hT.ref (hT.k t_x (by decide)) (by decide) (by decide) (by decide)) (by decide) (by decide)
  obtain ⟨sl0, esl0⟩ : ∃ z, kR κ rs5 0 = z := ⟨_, rfl⟩
  have tsl0 : zk σ0 sl0 3 := by rw [← esl0]; exact hT.kr (hT.ref (hT.k trs5 (by decide)) (by decide) (by decide) (by decide)) (by decide) (by decide)
  obtain ⟨sl1, esl1⟩ : ∃ z, kR κ rs5 1 = z := ⟨_, rfl⟩
  have tsl1 : zk σ0 sl1 3 := by rw [← esl1]; exact hT.kr (hT.ref (hT.k trs5 (by decide)) (by decide) (by decide) (by decide)) (by decide) (by decide)
  obtain ⟨rW, erW⟩ : ∃ z, kR κ mm 1 = z := ⟨_, rfl⟩
  have trW : zk σ0 rW 21 := by rw [← erW]; exact hT.kr (hT.ref (hT.k t_mm (by decide)) (by decide) (by decide) (by decide)) (by decide) (by decide)
  obtain ⟨rS, erS⟩ : ∃ z, kR κ mm 3 = z := ⟨_, rfl⟩
  have trS : zk σ0 rS 22 := by rw [← erS]; exact hT.kr (hT.ref (hT.k t_mm (by decide)) (by decide) (by decide) (by decide)) (by decide) (by decide)
  obtain ⟨so, eso⟩ : ∃ z, kR κ x 1 = z := ⟨_, rfl⟩
  have tso : zk σ0 so 4 := by rw [← eso]; exact hT.kr (hT.ref (hT.k t_x (by decide)) (by decide) (by decide) (by decide)) (by decide) (by decide)
  obtain ⟨qP, eqP⟩ : ∃ z, kR κ so 0 = z := ⟨_, rfl⟩
  have tqP : zk σ0 qP 8 := by rw [← eqP]; exact hT.kr (hT.ref (hT.k tso (by decide)) (by decide) (by decide) (by decide)) (by decide) (by decide)
  obtain ⟨qO, eqO⟩ : ∃ z, kR κ so 1 = z := ⟨_, rfl⟩
  have tqO : zk σ0 qO 16 := by rw [← eqO]; exact hT.kr (hT.ref (hT.k tso (by decide)) (by decide) (by decide) (by decide)) (by decide) (by decide)
  obtain ⟨r5, er5⟩ : ∃ z, kR κ mm 5 = z := ⟨_, rfl⟩
  have tr5 : zk σ0 r5 25 := by rw [← er5]; exact hT.kr (hT.ref (hT.k t_mm (by decide)) (by decide) (by decide) (by decide)) (by decide) (by decide)
  obtain ⟨r6, er6⟩ : ∃ z, kR κ mm 6 = z := ⟨_, rfl⟩
  have tr6 : zk σ0 r6 26 := by rw [← er6]; exact hT.kr (hT.ref (hT.k t_mm (by decide)) (by decide) (by decide) (by decide)) (by decide) (by decide)
  obtain ⟨hnw, hsl⟩ := hsr
  obtain ⟨hd1, ⟨hd2, hd3⟩, hd4, hd5, hd6, hd7⟩ := hdis
  have d_nt : nw ≠ tr := by rw [← enw, ← etr]; exact hd2
  have d_n0 : nw ≠ sl0 := by rw [← enw, ← esl0, ← ers5]; exact hd3 0 (by decide)
  have d_t0 : sl0 ≠ tr := by rw [← etr, ← esl0, ← ers5]; exact fun q => hd4 0 (by decide) q.symm
  have d_n1 : nw ≠ sl1 := by rw [← enw, ← esl1, ← ers5]; exact hd3 1 (by decide)
  have d_t1 : sl1 ≠ tr := by rw [← etr, ← esl1, ← ers5]; exact fun q => hd4 1 (by decide) q.symm
  have d_01 : sl0 ≠ sl1 := by rw [← esl0, ← esl1, ← ers5]; exact hd5
  have knw : zk σ nw 3 := hT.k tnw (by decide)
  have ksl0 : zk σ sl0 3 := hT.k tsl0 (by decide)
  have ksl1 : zk σ sl1 3 := hT.k tsl1 (by decide)
  have hdn : ∀ i : Nat, i < 2 → nw ≠ kR κ (kR κ x 5) i := by rw [← enw]; exact hd3
  refine lv_aload_n hx hb dL_law_1382 rfl (lv_at hl 3 rfl) ?_
  refine lv_aload_n hx hb dL_law_1383 rfl (lv_at hl 4 rfl) ?_
  refine lv_iload hx hb dL_law_1384 (lv_at hl 0 rfl) ?_
  refine lv_iconst (v := 1) hx hb dL_law_1386 (by decide) ?_
  refine lv_iadd hx hb dL_law_1387 ?_
  refine g_add (by omega) (by omega) (fun t1 ht1 => ?_)
  refine va_sld hx hb hXs hbl hbA hT.2.2.2 (g_in (by omega) (by omega)) dL_law_1388 ?_
  refine ti y1 (by rw [hy1]; exact congrArg xs (show t1.toNatClampNeg = ix i + 1 from by show t1.toInt.toNat = ix i + 1; unfold ix; omega)) ?_
  have hTo := hT
  refine tHi (n := 2) (As := [.ref x, .int y1]) (rest := []) hx hb hml hown hg hT hK hX (L_save l κ σ x y1 (hT.k t_x (by decide)) hlt) sub_hfSv_fA (mwHS k1189 k1190 k83 k1191) ⟨by decide, by decide, by decide +kernel⟩ ⟨(Nat.le_of_ble_eq_true rfl), (Nat.le_of_ble_eq_true rfl)⟩ rfl hl.1 rfl (Nat.le_of_ble_eq_true rfl) dL_law_1389 zx (fun r3 s2 H locs hφ hE hT => ?_)
  have f4 := hφ
  have R5 := hR.ext hE ⟨rfl, rfl, fun _ => rfl, fun _ => rfl, fun _ => rfl, fun _ => rfl⟩
  have a6 : (zI s2 tx 1).toInt = (zI σ tx 1).toInt := by rw [(hTo.k ttx (by decide)).eI hE (by decide) rfl]
  have j7 : zI s2 rB = zI σ rB := (show zI s2 rB = zI σ rB from funext fun k => (hTo.k trB (by decide)).eI hE (by decide) rfl)
  have j8 : zI s2 rT = zI σ rT := (show zI s2 rT = zI σ rT from funext fun k => (hTo.k trT (by decide)).eI hE (by decide) rfl)
  have j9 : zI s2 rK = zI σ rK := (show zI s2 rK = zI σ rK from funext fun k => (hTo.k trK (by decide)).eI hE (by decide) rfl)
  have j10 : zI s2 tx 2 = zI σ tx 2 := (hTo.k ttx (by decide)).eI hE (by decide) rfl
  have j11 : zI s2 tx 3 = zI σ tx 3 := (hTo.k ttx (by decide)).eI hE (by decide) rfl
  have j12 : zI s2 mm 15 = zI σ mm 15 := (hTo.k t_mm (by decide)).eI hE (by decide) rfl
  have j13 : zI s2 mm 16 = zI σ mm 16 := (hTo.k t_mm (by decide)).eI hE (by decide) rfl
  have n14 : ∀ j : Nat, j < 3 → zJ s2 rW j = zJ σ rW j := fun j hj => (hTo.k trW (by decide)).eJ hE (by decide) rfl
  have n15 : zJ s2 rS = zJ σ rS := (show zJ s2 rS = zJ σ rS from funext fun k => (hTo.k trS (by decide)).eJ hE (by decide) rfl)
  have z16 : zI s2 so 2 = zI σ so 2 ∧ zI s2 so 6 = zI σ so 6 ∧ zI s2 qP = zI σ qP ∧ zI s2 qO = zI σ qO := ⟨(hTo.k tso (by decide)).eI hE (by decide) rfl, (hTo.k tso (by decide)).eI hE (by decide) rfl, funext fun q9 => (hTo.k tqP (by decide)).eI hE (by decide) rfl, funext fun q9 => (hTo.k tqO (by decide)).eI hE (by decide) rfl⟩
  have z17 : zI s2 mm 7 = zI σ mm 7 ∧ zI s2 mm 8 = zI σ mm 8 ∧ zI s2 r5 = zI σ r5 ∧ zI s2 r6 = zI σ r6 := ⟨(hTo.k t_mm (by decide)).eI hE (by decide) rfl, (hTo.k t_mm (by decide)).eI hE (by decide) rfl, funext fun q9 => (hTo.k tr5 (by decide)).eI hE (by decide) rfl, funext fun q9 => (hTo.k tr6 (by decide)).eI hE (by decide) rfl⟩
  rw [erI] at f4
  rw [enw] at f4
  have nn9 : zI s2 nw 7 = zI σ nw 7 ∧ zI s2 nw 8 = zI σ nw 8 ∧ zI s2 nw 9 = zI σ nw 9 := f4.elim (fun q9 => q9.2.2.2.2.2 nw (hdn (ix y1) (by have z8 := q9.1; have z9 := q9.2.1; unfold ix; omega)) knw) (fun q9 => q9.2.2.2 nw knw)
  have sc0 : (0 ≤ y1.toInt ∧ y1.toInt ≤ 1 ∧ ix y1 = 0 ∧ zI s2 sl0 7 = zI σ nw 7 ∧ zI s2 sl0 8 = zI σ nw 8 ∧ zI s2 sl0 9 = zI σ nw 9) ∨ (¬ (0 ≤ y1.toInt ∧ y1.toInt ≤ 1 ∧ ix y1 = 0) ∧ zI s2 sl0 7 = zI σ sl0 7 ∧ zI s2 sl0 8 = zI σ sl0 8 ∧ zI s2 sl0 9 = zI σ sl0 9) := by
    rcases f4 with ⟨c1, c2, c3, c4, c5, c6⟩ | ⟨c1, c2, c3, c4⟩
    · have i9 : (ix y1 : Int) = y1.toInt := by unfold ix; omega
      by_cases e9 : ix y1 = 0
      · rw [e9, ers5, esl0] at c5; exact Or.inl ⟨c1, c2, e9, c5⟩
      · exact Or.inr ⟨fun q9 => e9 q9.2.2, c6 sl0 (by rw [show ix y1 = 1 from by omega, ers5, esl1]; exact d_01) ksl0⟩
    · exact Or.inr ⟨fun q9 => by omega, c4 sl0 ksl0⟩
  have sc1 : (0 ≤ y1.toInt ∧ y1.toInt ≤ 1 ∧ ix y1 = 1 ∧ zI s2 sl1 7 = zI σ nw 7 ∧ zI s2 sl1 8 = zI σ nw 8 ∧ zI s2 sl1 9 = zI σ nw 9) ∨ (¬ (0 ≤ y1.toInt ∧ y1.toInt ≤ 1 ∧ ix y1 = 1) ∧ zI s2 sl1 7 = zI σ sl1 7 ∧ zI s2 sl1 8 = zI σ sl1 8 ∧ zI s2 sl1 9 = zI σ sl1 9) := by
    rcases f4 with ⟨c1, c2, c3, c4, c5, c6⟩ | ⟨c1, c2, c3, c4⟩
    · have i9 : (ix y1 : Int) = y1.toInt := by unfold ix; omega
      by_cases e9 : ix y1 = 1
      · rw [e9, ers5, esl1] at c5; exact Or.inl ⟨c1, c2, e9, c5⟩
      · exact Or.inr ⟨fun q9 => e9 q9.2.2, c6 sl1 (by rw [show ix y1 = 0 from by omega, ers5, esl0]; exact fun q9 => d_01 q9.symm) ksl1⟩
    · exact Or.inr ⟨fun q9 => by omega, c4 sl1 ksl1⟩
  have a18 : (zI s2 mm 13).toInt = (zI σ mm 13).toInt := by rw [(hTo.k t_mm (by decide)).eI hE (by decide) rfl]
  refine lv_istore (lv' := [(5, .int r3), (4, .int i), (3, .ref out), (2, .ref mm), (1, .ref x), (0, .ref b)]) hx hb dL_law_1392 hl (by decide) rfl (fun ls hl => ?_)
  refine lv_aload_n hx hb dL_law_1394 rfl (lv_at hl 3 rfl) ?_
  refine lv_aload_n hx hb dL_law_1395 rfl (lv_at hl 5 rfl) ?_
  refine lv_iload hx hb dL_law_1396 (lv_at hl 1 rfl) ?_
  refine lv_iconst (v := 1) hx hb dL_law_1398 (by decide) ?_
  refine lv_iadd hx hb dL_law_1399 ?_
  refine g_add (by omega) (by omega) (fun t19 ht19 => ?_)
  refine va_sld hx hb hXs hbl hbA hT.2.2.2 (g_in (by omega) (by omega)) dL_law_1400 ?_
  refine ti y1 (by rw [hy1]; exact congrArg xs (show t19.toNatClampNeg = ix i + 1 from by show t19.toInt.toNat = ix i + 1; unfold ix; omega)) ?_
  have hTo := hT
  refine tVv (n := 1) (As := [.int y1]) (rest := []) hx hb hml hown hg hT hK hX (X6s_save l (kX κ) s2 mm y1 (hT.k t_mm (by decide)) R5) sub_gS_fA (mwV k1690 k1691 k1692 k92 k1693) ⟨rfl, by decide, by decide, by decide +kernel⟩ ⟨(Nat.le_of_ble_eq_true rfl), (Nat.le_of_ble_eq_true rfl)⟩ (hT.o20 (hT.k t_mm (by decide))) rfl rfl hl.1 rfl (Nat.le_of_ble_eq_true rfl) dL_law_1401 zx (fun s20 H locs hφ hE hT => ?_)
  obtain ⟨f22, f23⟩ := hφ
  have a24 : (zI s20 tx 1).toInt = (zI s2 tx 1).toInt := by rw [(hTo.k ttx (by decide)).eI hE (by decide) rfl]
  have j25 : zI s20 rB = zI σ rB := ((show zI s20 rB = zI s2 rB from funext fun k => (hTo.k trB (by decide)).eI hE (by decide) rfl)).trans j7
  have j26 : zI s20 rT = zI σ rT := ((show zI s20 rT = zI s2 rT from funext fun k => (hTo.k trT (by decide)).eI hE (by decide) rfl)).trans j8
  have j27 : zI s20 rI = zI s2 rI := (show zI s20 rI = zI s2 rI from funext fun k => (hTo.k trI (by decide)).eI hE (by decide) rfl)
  have j28 : zI s20 tx 2 = zI σ tx 2 := ((hTo.k ttx (by decide)).eI hE (by decide) rfl).trans j10
  have j29 : zI s20 tx 3 = zI σ tx 3 := ((hTo.k ttx (by decide)).eI hE (by decide) rfl).trans j11
  have j30 : zI s20 mm 15 = zI σ mm 15 := ((hTo.k t_mm (by decide)).eI hE (by decide) rfl).trans j12
  have j31 : zI s20 mm 16 = zI σ mm 16 := ((hTo.k t_mm (by decide)).eI hE (by decide) rfl).trans j13
  have n32 : zI s20 nw 7 = zI s2 nw 7 ∧ zI s20 nw 8 = zI s2 nw 8 ∧ zI s20 nw 9 = zI s2 nw 9 := ⟨(hTo.k tnw (by decide)).eI hE (by decide) rfl, (hTo.k tnw (by decide)).eI hE (by decide) rfl, (hTo.k tnw (by decide)).eI hE (by decide) rfl⟩
  have n33 : zI s20 nw 7 = zI σ nw 7 ∧ zI s20 nw 8 = zI σ nw 8 ∧ zI s20 nw 9 = zI σ nw 9 := ⟨n32.1.trans nn9.1, n32.2.1.trans nn9.2.1, n32.2.2.trans nn9.2.2⟩
  have n34 : zI s20 sl0 7 = zI s2 sl0 7 ∧ zI s20 sl0 8 = zI s2 sl0 8 ∧ zI s20 sl0 9 = zI s2 sl0 9 := ⟨(hTo.k tsl0 (by decide)).eI hE (by decide) rfl, (hTo.k tsl0 (by decide)).eI hE (by decide) rfl, (hTo.k tsl0 (by decide)).eI hE (by decide) rfl⟩
  have n35 : zI s20 sl1 7 = zI s2 sl1 7 ∧ zI s20 sl1 8 = zI s2 sl1 8 ∧ zI s20 sl1 9 = zI s2 sl1 9 := ⟨(hTo.k tsl1 (by decide)).eI hE (by decide) rfl, (hTo.k tsl1 (by decide)).eI hE (by decide) rfl, (hTo.k tsl1 (by decide)).eI hE (by decide) rfl⟩
  have n36 : ∀ j : Nat, j < 3 → zJ s20 rW j = zJ s2 rW j := fun j hj => (hTo.k trW (by decide)).eJ hE (by decide) rfl
  have n37 : ∀ j : Nat, j < 3 → zJ s20 rW j = zJ σ rW j := fun j hj => (n36 j hj).trans (n14 j hj)
  have z38 : zI s20 so 2 = zI s2 so 2 ∧ zI s20 so 6 = zI s2 so 6 ∧ zI s20 qP = zI s2 qP ∧ zI s20 qO = zI s2 qO := ⟨(hTo.k tso (by decide)).eI hE (by decide) rfl, (hTo.k tso (by decide)).eI hE (by decide) rfl, funext fun q9 => (hTo.k tqP (by decide)).eI hE (by decide) rfl, funext fun q9 => (hTo.k tqO (by decide)).eI hE (by decide) rfl⟩
  have z39 : zI s20 so 2 = zI σ so 2 ∧ zI s20 so 6 = zI σ so 6 ∧ zI s20 qP = zI σ qP ∧ zI s20 qO = zI σ qO := ⟨z38.1.trans z16.1, z38.2.1.trans z16.2.1, z38.2.2.1.trans z16.2.2.1, z38.2.2.2.trans z16.2.2.2⟩
  have z40 : zI s20 mm 7 = zI s2 mm 7 ∧ zI s20 mm 8 = zI s2 mm 8 ∧ zI s20 r5 = zI s2 r5 ∧ zI s20 r6 = zI s2 r6 := ⟨(hTo.k t_mm (by decide)).eI hE (by decide) rfl, (hTo.k t_mm (by decide)).eI hE (by decide) rfl, funext fun q9 => (hTo.k tr5 (by decide)).eI hE (by decide) rfl, funext fun q9 => (hTo.k tr6 (by decide)).eI hE (by decide) rfl⟩
  have z41 : zI s20 mm 7 = zI σ mm 7 ∧ zI s20 mm 8 = zI σ mm 8 ∧ zI s20 r5 = zI σ r5 ∧ zI s20 r6 = zI σ r6 := ⟨z40.1.trans z17.1, z40.2.1.trans z17.2.1, z40.2.2.1.trans z17.2.2.1, z40.2.2.2.trans z17.2.2.2⟩
  rw [show kR (kX κ) mm 4 = rK from erK] at f23
  rw [show kR (kX κ) mm 3 = rS from erS, show kR (kX κ) mm 1 = rW from erW] at f23
  have sm0 : (0 ≤ y1.toInt ∧ y1.toInt ≤ 1 ∧ ix y1 = 0 ∧ ∀ j : Nat, j < 3 → zJ s20 rS (609 * 0 + j) = zJ s2 rW j) ∨ (¬ (0 ≤ y1.toInt ∧ y1.toInt ≤ 1 ∧ ix y1 = 0) ∧ ∀ j : Nat, j < 3 → zJ s20 rS (609 * 0 + j) = zJ s2 rS (609 * 0 + j)) := by
    rcases f23 with ⟨m1, m2, m4, m5, m6⟩ | ⟨m1, m4, m5⟩
    · have i9 : (ix y1 : Int) = y1.toInt := by unfold ix; omega
      by_cases e9 : ix y1 = 0
      · rw [e9] at m5; exact Or.inl ⟨m1, m2, e9, m5⟩
      · exact Or.inr ⟨fun q9 => e9 q9.2.2, fun j hj => m6 _ (by omega)⟩
    · exact Or.inr ⟨fun q9 => by omega, fun j hj => by rw [m5]⟩
  have sm1 : (0 ≤ y1.toInt ∧ y1.toInt ≤ 1 ∧ ix y1 = 1 ∧ ∀ j : Nat, j < 3 → zJ s20 rS (609 * 1 + j) = zJ s2 rW j) ∨ (¬ (0 ≤ y1.toInt ∧ y1.toInt ≤ 1 ∧ ix y1 = 1) ∧ ∀ j : Nat, j < 3 → zJ s20 rS (609 * 1 + j) = zJ s2 rS (609 * 1 + j)) := by
    rcases f23 with ⟨m1, m2, m4, m5, m6⟩ | ⟨m1, m4, m5⟩
    · have i9 : (ix y1 : Int) = y1.toInt := by unfold ix; omega
      by_cases e9 : ix y1 = 1
      · rw [e9] at m5; exact Or.inl ⟨m1, m2, e9, m5⟩
      · exact Or.inr ⟨fun q9 => e9 q9.2.2, fun j hj => m6 _ (by omega)⟩
    · exact Or.inr ⟨fun q9 => by omega, fun j hj => by rw [m5]⟩
  have a42 : (zI s20 mm 13).toInt = (zI s2 mm 13).toInt := by rw [(hTo.k t_mm (by decide)).eI hE (by decide) rfl]
  refine lv_goto (tgt := 1432) hx hb dL_law_1404 (by decide) ?_
  have sl0f : zI s20 rI 0 ≠ 0 → SLT κ s20 x mm 0 := by
    intro hq
    rw [j27] at hq
    rcases sc0 with ⟨c1, c2, c3, c4⟩ | ⟨c1, c4⟩ <;> rcases sm0 with ⟨m1, m2, m3, m4⟩ | ⟨m1, m4⟩
    · exact SLT.sav hnw (by rw [ers5, esl0, enw]; exact ⟨n34.1.trans c4.1, n34.2.1.trans c4.2.1, n34.2.2.trans c4.2.2⟩) (fun j hj => by rw [erS, erW]; exact (congrFun (show zJ s20 rS = zJ s20 rS from rfl) _).trans ((m4 j hj).trans (n14 j hj)))
    · exact absurd ⟨c1, c2, c3⟩ m1
    · exact absurd ⟨m1, m2, m3⟩ c1
    · have hq9 : zI σ rI 0 ≠ 0 := by
        rcases f4 with ⟨a1, a2, a3, a4, -⟩ | ⟨a1, a2, a4, -⟩
        · rw [a4 0, if_neg (show ¬ (0 : Nat) = ix y1 from fun e9 => c1 ⟨a1, a2, e9.symm⟩)] at hq; exact hq
        · rw [a4] at hq; exact hq
      exact (hsl 0 (by decide) (by rw [erI]; exact hq9)).tr (by rw [ers5, esl0]; exact ⟨n34.1.trans c4.1, n34.2.1.trans c4.2.1, n34.2.2.trans c4.2.2⟩) (fun j hj => by rw [erS]; exact (congrFun (show zJ s20 rS = zJ s20 rS from rfl) _).trans ((m4 j hj).trans (congrFun n15 _)))
  have sl1f : zI s20 rI 1 ≠ 0 → SLT κ s20 x mm 1 := by
    intro hq
    rw [j27] at hq
    rcases sc1 with ⟨c1, c2, c3, c4⟩ | ⟨c1, c4⟩ <;> rcases sm1 with ⟨m1, m2, m3, m4⟩ | ⟨m1, m4⟩
    · exact SLT.sav hnw (by rw [ers5, esl1, enw]; exact ⟨n35.1.trans c4.1, n35.2.1.trans c4.2.1, n35.2.2.trans c4.2.2⟩) (fun j hj => by rw [erS, erW]; exact (congrFun (show zJ s20 rS = zJ s20 rS from rfl) _).trans ((m4 j hj).trans (n14 j hj)))
    · exact absurd ⟨c1, c2, c3⟩ m1
    · exact absurd ⟨m1, m2, m3⟩ c1
    · have hq9 : zI σ rI 1 ≠ 0 := by
        rcases f4 with ⟨a1, a2, a3, a4, -⟩ | ⟨a1, a2, a4, -⟩
        · rw [a4 1, if_neg (show ¬ (1 : Nat) = ix y1 from fun e9 => c1 ⟨a1, a2, e9.symm⟩)] at hq; exact hq
        · rw [a4] at hq; exact hq
      exact (hsl 1 (by decide) (by rw [erI]; exact hq9)).tr (by rw [ers5, esl1]; exact ⟨n35.1.trans c4.1, n35.2.1.trans c4.2.1, n35.2.2.trans c4.2.2⟩) (fun j hj => by rw [erS]; exact (congrFun (show zJ s20 rS = zJ s20 rS from rfl) _).trans ((m4 j hj).trans (congrFun n15 _)))
  exact KK s20 _ _ _ hT f22 ⟨by rw [etx]; omega, ⟨by rw [etx, erB, erT, j25, j26]; exact tal_less hal (by omega), by rw [erT, j26]; exact tnn_less hnn (by omega)⟩, ⟨by rw [etx, j28, j30]; exact hco, by rw [etx, j29, j31]; exact hpo⟩, fun i hi => by rw [erI, erK, j27]; rcases f4 with ⟨c1, c2, c3, c4, -, -⟩ | ⟨c1, c2, c4, -⟩ <;> rcases f23 with ⟨m1, m2, m4, -, -⟩ | ⟨m1, m4, -⟩ <;> first | (exfalso; omega) | (rw [c4 i, m4 i, j9]; by_cases e9 : i = ix y1; rw [if_pos e9, if_pos e9]; rw [if_neg e9, if_neg e9]; exact hkp i hi) | (rw [c4, m4, j9]; exact hkp i hi)⟩ (⟨hnw.tr (by rw [enw]; exact n33) (by rw [erW]; exact n37), fun i hi => (show i = 0 ∨ i = 1 by omega).elim (fun e9 => by rw [e9, erI]; exact sl0f) (fun e9 => by rw [e9, erI]; exact sl1f)⟩) (hsm.tr (by rw [eso, eqP, eqO]; exact z39) (by rw [er5, er6]; exact z41)) (lv_sub hl [1, 2, 3, 4, 5] rfl)
set_option maxHeartbeats 4000000 in
set_option maxRecDepth 100000 in
theorem lc_40 (l : Launch) (κ : Kt) (σ0 : Gh) (x mm out b : Nat) (t_x : zk σ0 x 7) (t_mm : zk σ0 mm 20) (t_out : zk σ0 out 24) (ttx0 : zk σ0 (kR κ x 0) 6) (hdis : DIS κ x) (hlt : l.stackTraces = false) {p : Program} {e : Env} {s : State} {m : MethodId} {below : List Frame} {meth : Method} {c : Code} {L : Nat} {xs : Nat → Int32} {i : Int32} {Q9 : State → Prop} (hx : p.tables.exec = Jvm.exec) (hb : c.code = cL_law) (hml : c.maxLocals = 9) (hown : s.vm.findClass RL = some m.cls) (hg : ∀ w ∈ GW, w.before #[Value.ref b] s = true) (hK : va_K κ.1 vwCl (kTy κ) s) (hX : XY κ (tA σ0 s.heap.size) s s.heap) (hXs : va_X b L xs s s.heap) (hbl : b < s.heap.size) (hbA : ¬ tA σ0 s.heap.size b) (zx : zroomX κ s room_1 601024 7293034) (hi0 : 0 ≤ i.toInt) (hi1 : i.toInt + 6 ≤ L) (hL9 : L ≤ 3072) {σ : Gh} {H : Heap} {locs : List Loc} {ls : Array Slot} (hT : TS κ fA σ0 σ s H locs) (hR : RI κ σ mm) (hrel : LREL κ σ x mm) (hsr : SREL κ σ x mm) (hsm : SMP κ σ x mm) (hl : lv_has ls 9 [(4, .int i), (3, .ref out), (2, .ref mm), (1, .ref x), (0, .ref b)]) (KK : ∀ (σ1 : Gh) (H : Heap) (locs : List Loc) (ls : Array Slot), TS (kX κ) fA σ0 σ1 s H locs → RI (kX κ) σ1 mm → LREL κ σ1 x mm → SREL κ σ1 x mm → SMP κ σ1 x mm → lv_has ls 9 [(4, .int i), (3, .ref out), (2, .ref mm), (1, .ref x), (0, .ref b)] → W p l e room_1 s m #[Value.ref b] below meth c H locs 601024 7293034 Q9 (F0 m 1432 ls [])) : W p l e room_1 s m #[Value.ref b] below meth c H locs 601024 7293034 Q9 (F0 m 1407 ls []) := by
  obtain ⟨y1, hy1⟩ : ∃ z, z = xs (ix i + 1) := ⟨_, rfl⟩
  obtain ⟨y2, hy2⟩ : ∃ z, z = xs (ix i + 2) := ⟨_, rfl⟩
  obtain ⟨y3, hy3⟩ : ∃ z, z = xs (ix i + 3) := ⟨_, rfl⟩
  obtain ⟨y4, hy4⟩ : ∃ z, z = xs (ix i + 4) := ⟨_, rfl⟩
  obtain ⟨y5, hy5⟩ : ∃ z, z = xs (ix i + 5) := ⟨_, rfl⟩
  have n0 : (0 : Int32).toInt = 0 := by decide
  have n1 : (1 : Int32).toInt = 1 := by decide
  have n2 : (2 : Int32).toInt = 2 := by decide
  have n3 : (3 : Int32).toInt = 3 := by decide
  have n4 : (4 : Int32).toInt = 4 := by decide
  have n5 : (5 : Int32).toInt = 5 := by decide
  obtain ⟨tx, etx⟩ : ∃ z, kR κ x 0 = z := ⟨_, rfl⟩
  have ttx : zk σ0 tx 6 := by rw [← etx]; exact ttx0
  obtain ⟨rB, erB⟩ : ∃ z, kR κ tx 0 = z := ⟨_, rfl⟩
  have trB : zk σ0 rB 14 := by rw [← erB]; exact hT.kr (hT.ref (hT.k ttx (by decide)) (by decide) (by decide) (by decide)) (by decide) (by decide)
  obtain ⟨rT, erT⟩ : ∃ z, kR κ mm 12 = z := ⟨_, rfl⟩
  have trT : zk σ0 rT 23 := by rw [← erT]; exact hT.kr (hT.ref (hT.k t_mm (by decide)) (by decide) (by decide) (by decide)) (by decide) (by decide)
  obtain ⟨rI, erI⟩ : ∃ z, kR κ x 6 = z := ⟨_, rfl⟩
  have trI : zk σ0 rI 13 := by rw [← erI]; exact hT.kr (hT.ref (hT.k t_x (by decide)) (by decide) (by decide) (by decide)) (by decide) (by decide)
  obtain ⟨rK, erK⟩ : ∃ z, kR κ mm 4 = z := ⟨_, rfl⟩
  have trK : zk σ0 rK 29 := by rw [← erK]; exact hT.kr (hT.ref (hT.k t_mm (by decide)) (by decide) (by decide) (by decide)) (by decide) (by decide)
  obtain ⟨hlen, ⟨hal, hnn⟩, ⟨hco, hpo⟩, hkp⟩ := hrel
  rw [etx] at hlen hal hco hpo
  rw [erB, erT] at hal
  rw [erT] at hnn
  rw [erI, erK] at hkp
  have btx := (hT.P (hT.k ttx (by decide)) (by decide)).1
  have btxl := btx.1
  have btxh := btx.2
  obtain ⟨nw, enw⟩ : ∃ z, kR κ x 3 = z := ⟨_, rfl⟩
  have tnw : zk σ0 nw 3 := by rw [← enw]; exact hT.kr (hT.ref (hT.k t_x (by decide)) (by decide) (by decide) (by decide)) (by decide) (by decide)
  obtain ⟨tr, etr⟩ : ∃ z, kR κ x 4 = z := ⟨_, rfl⟩
  have ttr : zk σ0 tr 3 := by rw [← etr]; exact hT.kr (hT.ref (hT.k t_x (by decide)) (by decide) (by decide) (by decide)) (by decide) (by decide)
  obtain ⟨rs5, ers5⟩ : ∃ z, kR κ x 5 = z := ⟨_, rfl⟩
  have trs5 : zk σ0 rs5 12 := by rw [← ers5]; exact hT.kr (hT.ref (hT.k t_x (by decide)) (by decide) (by decide) (by decide)) (by decide) (by decide)
  obtain ⟨sl0, esl0⟩ : ∃ z, kR κ rs5 0 = z := ⟨_, rfl⟩
  have tsl0 : zk σ0 sl0 3 := by rw [← esl0]; exact hT.kr (hT.ref (hT.k trs5 (by decide)) (by decide) (by decide) (by decide)) (by decide) (by decide)
  obtain ⟨sl1, esl1⟩ : ∃ z, kR κ rs5 1 = z := ⟨_, rfl⟩
  have tsl1 : zk σ0 sl1 3 := by rw [← esl1]; exact hT.kr (hT.ref (hT.k trs5 (by decide)) (by decide) (by decide) (by decide)) (by decide) (by decide)
  obtain ⟨rW, erW⟩ : ∃ z, kR κ mm 1 = z := ⟨_, rfl⟩
  have trW : zk σ0 rW 21 := by rw [← erW]; exact hT.kr (hT.ref (hT.k t_mm (by decide)) (by decide) (by decide) (by decide)) (by decide) (by decide)
  obtain ⟨rS, erS⟩ : ∃ z, kR κ mm 3 = z := ⟨_, rfl⟩
  have trS : zk σ0 rS 22 := by rw [← erS]; exact hT.kr (hT.ref (hT.k t_mm (by decide)) (by decide) (by decide) (by decide)) (by decide) (by decide)
  obtain ⟨so, eso⟩ : ∃ z, kR κ x 1 = z := ⟨_, rfl⟩
  have tso : zk σ0 so 4 := by rw [← eso]; exact hT.kr (hT.ref (hT.k t_x (by decide)) (by decide) (by decide) (by decide)) (by decide) (by decide)
  obtain ⟨qP, eqP⟩ : ∃ z, kR κ so 0 = z := ⟨_, rfl⟩
  have tqP : zk σ0 qP 8 := by rw [← eqP]; exact hT.kr (hT.ref (hT.k tso (by decide)) (by decide) (by decide) (by decide)) (by decide) (by decide)
  obtain ⟨qO, eqO⟩ : ∃ z, kR κ so 1 = z := ⟨_, rfl⟩
  have tqO : zk σ0 qO 16 := by rw [← eqO]; exact hT.kr (hT.ref (hT.k tso (by decide)) (by decide) (by decide) (by decide)) (by decide) (by decide)
  obtain ⟨r5, er5⟩ : ∃ z, kR κ mm 5 = z := ⟨_, rfl⟩
  have tr5 : zk σ0 r5 25 := by rw [← er5]; exact hT.kr (hT.ref (hT.k t_mm (by decide)) (by decide) (by decide) (by decide)) (by decide) (by decide)
  obtain ⟨r6, er6⟩ : ∃ z, kR κ mm 6 = z := ⟨_, rfl⟩
  have tr6 : zk σ0 r6 26 := by rw [← er6]; exact hT.kr (hT.ref (hT.k t_mm (by decide)) (by decide) (by decide) (by decide)) (by decide) (by decide)
  obtain ⟨hnw, hsl⟩ := hsr
  obtain ⟨hd1, ⟨hd2, hd3⟩, hd4, hd5, hd6, hd7⟩ := hdis
  have d_nt : nw ≠ tr := by rw [← enw, ← etr]; exact hd2
  have d_n0 : nw ≠ sl0 := by rw [← enw, ← esl0, ← ers5]; exact hd3 0 (by decide)
  have d_t0 : sl0 ≠ tr := by rw [← etr, ← esl0, ← ers5]; exact fun q => hd4 0 (by decide) q.symm
  have d_n1 : nw ≠ sl1 := by rw [← enw, ← esl1, ← ers5]; exact hd3 1 (by decide)
  have d_t1 : sl1 ≠ tr := by rw [← etr, ← esl1, ← ers5]; exact fun q => hd4 1 (by decide) q.symm
  have d_01 : sl0 ≠ sl1 := by rw [← esl0, ← esl1, ← ers5]; exact hd5
  have knw : zk σ nw 3 := hT.k tnw (by decide)
  have ksl0 : zk σ sl0 3 := hT.k tsl0 (by decide)
  have ksl1 : zk σ sl1 3 := hT.k tsl1 (by decide)
  refine lv_aload_n hx hb dL_law_1407 rfl (lv_at hl 3 rfl) ?_
  refine lv_aload_n hx hb dL_law_1408 rfl (lv_at hl 4 rfl) ?_
  refine lv_iload hx hb dL_law_1409 (lv_at hl 0 rfl) ?_
  refine lv_iconst (v := 1) hx hb dL_law_1411 (by decide) ?_
  refine lv_iadd hx hb dL_law_1412 ?_
  refine g_add (by omega) (by omega) (fun t1 ht1 => ?_)
  refine va_sld hx hb hXs hbl hbA hT.2.2.2 (g_in (by omega) (by omega)) dL_law_1413 ?_
  refine ti y1 (by rw [hy1]; exact congrArg xs (show t1.toNatClampNeg = ix i + 1 from by show t1.toInt.toNat = ix i + 1; unfold ix; omega)) ?_
  have hTo := hT
  refine tHi (n := 2) (As := [.ref x, .int y1]) (rest := []) hx hb hml hown hg hT hK hX (L_restore l κ σ x y1 (hT.k t_x (by decide)) hlt) sub_hfCp_fA (mwHS k1196 k1197 k83 k1198) ⟨by decide, by decide, by decide +kernel⟩ ⟨(Nat.le_of_ble_eq_true rfl), (Nat.le_of_ble_eq_true rfl)⟩ rfl hl.1 rfl (Nat.le_of_ble_eq_true rfl) dL_law_1414 zx (fun r3 s2 H locs hφ hE hT => ?_)
  have f4 := hφ
  have R5 := hR.ext hE ⟨rfl, rfl, fun _ => rfl, fun _ => rfl, fun _ => rfl, fun _ => rfl⟩
  have a6 : (zI s2 tx 1).toInt = (zI σ tx 1).toInt := by rw [(hTo.k ttx (by decide)).eI hE (by decide) rfl]
  have j7 : zI s2 rB = zI σ rB := (show zI s2 rB = zI σ rB from funext fun k => (hTo.k trB (by decide)).eI hE (by decide) rfl)
  have j8 : zI s2 rT = zI σ rT := (show zI s2 rT = zI σ rT from funext fun k => (hTo.k trT (by decide)).eI hE (by decide) rfl)
  have j9 : zI s2 rI = zI σ rI := (show zI s2 rI = zI σ rI from funext fun k => (hTo.k trI (by decide)).eI hE (by decide) rfl)
  have j10 : zI s2 rK = zI σ rK := (show zI s2 rK = zI σ rK from funext fun k => (hTo.k trK (by decide)).eI hE (by decide) rfl)
  have j11 : zI s2 tx 2 = zI σ tx 2 := (hTo.k ttx (by decide)).eI hE (by decide) rfl
  have j12 : zI s2 tx 3 = zI σ tx 3 := (hTo.k ttx (by decide)).eI hE (by decide) rfl
  have j13 : zI s2 mm 15 = zI σ mm 15 := (hTo.k t_mm (by decide)).eI hE (by decide) rfl
  have j14 : zI s2 mm 16 = zI σ mm 16 := (hTo.k t_mm (by decide)).eI hE (by decide) rfl
  have n15 : ∀ j : Nat, j < 3 → zJ s2 rW j = zJ σ rW j := fun j hj => (hTo.k trW (by decide)).eJ hE (by decide) rfl
  have n16 : zJ s2 rS = zJ σ rS := (show zJ s2 rS = zJ σ rS from funext fun k => (hTo.k trS (by decide)).eJ hE (by decide) rfl)
  have z17 : zI s2 so 2 = zI σ so 2 ∧ zI s2 so 6 = zI σ so 6 ∧ zI s2 qP = zI σ qP ∧ zI s2 qO = zI σ qO := ⟨(hTo.k tso (by decide)).eI hE (by decide) rfl, (hTo.k tso (by decide)).eI hE (by decide) rfl, funext fun q9 => (hTo.k tqP (by decide)).eI hE (by decide) rfl, funext fun q9 => (hTo.k tqO (by decide)).eI hE (by decide) rfl⟩
  have z18 : zI s2 mm 7 = zI σ mm 7 ∧ zI s2 mm 8 = zI σ mm 8 ∧ zI s2 r5 = zI σ r5 ∧ zI s2 r6 = zI σ r6 := ⟨(hTo.k t_mm (by decide)).eI hE (by decide) rfl, (hTo.k t_mm (by decide)).eI hE (by decide) rfl, funext fun q9 => (hTo.k tr5 (by decide)).eI hE (by decide) rfl, funext fun q9 => (hTo.k tr6 (by decide)).eI hE (by decide) rfl⟩
  rw [erI] at f4
  rw [enw] at f4
  have nz0 : zI s2 sl0 7 = zI σ sl0 7 ∧ zI s2 sl0 8 = zI σ sl0 8 ∧ zI s2 sl0 9 = zI σ sl0 9 := f4.elim (fun q9 => q9.2.2.2.2.2 sl0 (fun e9 => d_n0 e9.symm) ksl0) (fun q9 => q9.elim (fun q9 => q9.2.2 sl0 ksl0) (fun q9 => q9.2.2.2.2 sl0 ksl0))
  have nz1 : zI s2 sl1 7 = zI σ sl1 7 ∧ zI s2 sl1 8 = zI σ sl1 8 ∧ zI s2 sl1 9 = zI σ sl1 9 := f4.elim (fun q9 => q9.2.2.2.2.2 sl1 (fun e9 => d_n1 e9.symm) ksl1) (fun q9 => q9.elim (fun q9 => q9.2.2 sl1 ksl1) (fun q9 => q9.2.2.2.2 sl1 ksl1))
  have a19 : (zI s2 mm 13).toInt = (zI σ mm 13).toInt := by rw [(hTo.k t_mm (by decide)).eI hE (by decide) rfl]
  refine lv_istore (lv' := [(5, .int r3), (4, .int i), (3, .ref out), (2, .ref mm), (1, .ref x), (0, .ref b)]) hx hb dL_law_1417 hl (by decide) rfl (fun ls hl => ?_)
  refine lv_aload_n hx hb dL_law_1419 rfl (lv_at hl 3 rfl) ?_
  refine lv_aload_n hx hb dL_law_1420 rfl (lv_at hl 5 rfl) ?_
  refine lv_iload hx hb dL_law_1421 (lv_at hl 1 rfl) ?_
  refine lv_iconst (v := 1) hx hb dL_law_1423 (by decide) ?_
  refine lv_iadd hx hb dL_law_1424 ?_
  refine g_add (by omega) (by omega) (fun t20 ht20 => ?_)
  refine va_sld hx hb hXs hbl hbA hT.2.2.2 (g_in (by omega) (by omega)) dL_law_1425 ?_
  refine ti y1 (by rw [hy1]; exact congrArg xs (show t20.toNatClampNeg = ix i + 1 from by show t20.toInt.toNat = ix i + 1; unfold ix; omega)) ?_
  have hTo := hT
  refine tVv (n := 1) (As := [.int y1]) (rest := []) hx hb hml hown hg hT hK hX (X6s_restore l (kX κ) s2 mm y1 (hT.k t_mm (by decide)) R5) sub_gXs_fA (mwV k1694 k1695 k1696 k92 k1697) ⟨rfl, by decide, by decide, by decide +kernel⟩ ⟨(Nat.le_of_ble_eq_true rfl), (Nat.le_of_ble_eq_true rfl)⟩ (hT.o20 (hT.k t_mm (by decide))) rfl rfl hl.1 rfl (Nat.le_of_ble_eq_true rfl) dL_law_1426 zx (fun s21 H locs hφ hE hT => ?_)
  obtain ⟨f23, f24⟩ := hφ
  have a25 : (zI s21 tx 1).toInt = (zI s2 tx 1).toInt := by rw [(hTo.k ttx (by decide)).eI hE (by decide) rfl]
  have j26 : zI s21 rB = zI σ rB := ((show zI s21 rB = zI s2 rB from funext fun k => (hTo.k trB (by decide)).eI hE (by decide) rfl)).trans j7
  have j27 : zI s21 rT = zI σ rT := ((show zI s21 rT = zI s2 rT from funext fun k => (hTo.k trT (by decide)).eI hE (by decide) rfl)).trans j8
  have j28 : zI s21 rI = zI σ rI := ((show zI s21 rI = zI s2 rI from funext fun k => (hTo.k trI (by decide)).eI hE (by decide) rfl)).trans j9
  have j29 : zI s21 rK = zI σ rK := ((show zI s21 rK = zI s2 rK from funext fun k => (hTo.k trK (by decide)).eI hE (by decide) rfl)).trans j10
  have j30 : zI s21 tx 2 = zI σ tx 2 := ((hTo.k ttx (by decide)).eI hE (by decide) rfl).trans j11
  have j31 : zI s21 tx 3 = zI σ tx 3 := ((hTo.k ttx (by decide)).eI hE (by decide) rfl).trans j12
  have j32 : zI s21 mm 15 = zI σ mm 15 := ((hTo.k t_mm (by decide)).eI hE (by decide) rfl).trans j13
  have j33 : zI s21 mm 16 = zI σ mm 16 := ((hTo.k t_mm (by decide)).eI hE (by decide) rfl).trans j14
  have n34 : zI s21 nw 7 = zI s2 nw 7 ∧ zI s21 nw 8 = zI s2 nw 8 ∧ zI s21 nw 9 = zI s2 nw 9 := ⟨(hTo.k tnw (by decide)).eI hE (by decide) rfl, (hTo.k tnw (by decide)).eI hE (by decide) rfl, (hTo.k tnw (by decide)).eI hE (by decide) rfl⟩
  have n35 : zI s21 sl0 7 = zI s2 sl0 7 ∧ zI s21 sl0 8 = zI s2 sl0 8 ∧ zI s21 sl0 9 = zI s2 sl0 9 := ⟨(hTo.k tsl0 (by decide)).eI hE (by decide) rfl, (hTo.k tsl0 (by decide)).eI hE (by decide) rfl, (hTo.k tsl0 (by decide)).eI hE (by decide) rfl⟩
  have n36 : zI s21 sl0 7 = zI σ sl0 7 ∧ zI s21 sl0 8 = zI σ sl0 8 ∧ zI s21 sl0 9 = zI σ sl0 9 := ⟨n35.1.trans nz0.1, n35.2.1.trans nz0.2.1, n35.2.2.trans nz0.2.2⟩
  have n37 : zI s21 sl1 7 = zI s2 sl1 7 ∧ zI s21 sl1 8 = zI s2 sl1 8 ∧ zI s21 sl1 9 = zI s2 sl1 9 := ⟨(hTo.k tsl1 (by decide)).eI hE (by decide) rfl, (hTo.k tsl1 (by decide)).eI hE (by decide) rfl, (hTo.k tsl1 (by decide)).eI hE (by decide) rfl⟩
  have n38 : zI s21 sl1 7 = zI σ sl1 7 ∧ zI s21 sl1 8 = zI σ sl1 8 ∧ zI s21 sl1 9 = zI σ sl1 9 := ⟨n37.1.trans nz1.1, n37.2.1.trans nz1.2.1, n37.2.2.trans nz1.2.2⟩
  have n39 : zJ s21 rS = zJ σ rS := (show zJ s21 rS = zJ s2 rS from funext fun k => (hTo.k trS (by decide)).eJ hE (by decide) rfl).trans n16
  have z40 : zI s21 so 2 = zI s2 so 2 ∧ zI s21 so 6 = zI s2 so 6 ∧ zI s21 qP = zI s2 qP ∧ zI s21 qO = zI s2 qO := ⟨(hTo.k tso (by decide)).eI hE (by decide) rfl, (hTo.k tso (by decide)).eI hE (by decide) rfl, funext fun q9 => (hTo.k tqP (by decide)).eI hE (by decide) rfl, funext fun q9 => (hTo.k tqO (by decide)).eI hE (by decide) rfl⟩
  have z41 : zI s21 so 2 = zI σ so 2 ∧ zI s21 so 6 = zI σ so 6 ∧ zI s21 qP = zI σ qP ∧ zI s21 qO = zI σ qO := ⟨z40.1.trans z17.1, z40.2.1.trans z17.2.1, z40.2.2.1.trans z17.2.2.1, z40.2.2.2.trans z17.2.2.2⟩
  have z42 : zI s21 mm 7 = zI s2 mm 7 ∧ zI s21 mm 8 = zI s2 mm 8 ∧ zI s21 r5 = zI s2 r5 ∧ zI s21 r6 = zI s2 r6 := ⟨(hTo.k t_mm (by decide)).eI hE (by decide) rfl, (hTo.k t_mm (by decide)).eI hE (by decide) rfl, funext fun q9 => (hTo.k tr5 (by decide)).eI hE (by decide) rfl, funext fun q9 => (hTo.k tr6 (by decide)).eI hE (by decide) rfl⟩
  have z43 : zI s21 mm 7 = zI σ mm 7 ∧ zI s21 mm 8 = zI σ mm 8 ∧ zI s21 r5 = zI σ r5 ∧ zI s21 r6 = zI σ r6 := ⟨z42.1.trans z18.1, z42.2.1.trans z18.2.1, z42.2.2.1.trans z18.2.2.1, z42.2.2.2.trans z18.2.2.2⟩
  rw [show kR (kX κ) mm 4 = rK from erK] at f24
  have hk9 : 0 ≤ y1.toInt → y1.toInt ≤ 1 → zI σ rI (ix y1) = zI s2 rK (ix y1) := fun q8 q9 => by rw [j10]; exact hkp _ (by unfold ix; omega)
  rw [show kR (kX κ) mm 3 = rS from erS, show kR (kX κ) mm 1 = rW from erW] at f24
  have a44 : (zI s21 mm 13).toInt = (zI s2 mm 13).toInt := by rw [(hTo.k t_mm (by decide)).eI hE (by decide) rfl]
  refine lv_goto (tgt := 1432) hx hb dL_law_1429 (by decide) ?_
  have sl0f : zI s21 rI 0 ≠ 0 → SLT κ s21 x mm 0 := fun hq => (hsl 0 (by decide) (fun q9 => hq (by rw [erI] at q9; rw [j28]; exact q9))).tr (by rw [ers5, esl0]; exact n36) (fun j hj => by rw [erS, n39])
  have sl1f : zI s21 rI 1 ≠ 0 → SLT κ s21 x mm 1 := fun hq => (hsl 1 (by decide) (fun q9 => hq (by rw [erI] at q9; rw [j28]; exact q9))).tr (by rw [ers5, esl1]; exact n38) (fun j hj => by rw [erS, n39])
  have snf : SNW κ s21 x mm := by
    rcases f4 with ⟨c1, c2, c3, c4, c5, c6⟩ | ⟨c1, c2, c3⟩ | ⟨c1, c2, c3, c4, c5⟩ <;> rcases f24 with ⟨m1, m2, m3⟩ | ⟨m1, m2, m3, m4, m5⟩ | ⟨m1, m2, m3, m4, m5⟩
    · exfalso; omega
    · exact SNW.res (hsl (ix y1) (by unfold ix; omega) (by rw [erI]; exact c4)) (by rw [enw]; exact ⟨n34.1.trans c5.1, n34.2.1.trans c5.2.1, n34.2.2.trans c5.2.2⟩) (fun j hj => by rw [erW, erS]; exact ((m5 j hj).trans (congrFun n16 _)))
    · exact absurd ((hk9 c2 c3).trans m3) c4
    · exact hnw.tr (by rw [enw]; exact ⟨n34.1.trans (c3 nw knw).1, n34.2.1.trans (c3 nw knw).2.1, n34.2.2.trans (c3 nw knw).2.2⟩) (fun j hj => by rw [erW]; exact ((m3 j hj).trans (n15 j hj)))
    · exfalso; omega
    · exfalso; omega
    · exfalso; omega
    · exact absurd ((hk9 c2 c3).symm.trans c4) m3
    · exact hnw.tr (by rw [enw]; exact ⟨n34.1.trans (c5 nw knw).1, n34.2.1.trans (c5 nw knw).2.1, n34.2.2.trans (c5 nw knw).2.2⟩) (fun j hj => by rw [erW]; exact ((m5 j hj).trans (n15 j hj)))
  exact KK s21 _ _ _ hT f23 ⟨by rw [etx]; omega, ⟨by rw [etx, erB, erT, j26, j27]; exact tal_less hal (by omega), by rw [erT, j27]; exact tnn_less hnn (by omega)⟩, ⟨by rw [etx, j30, j32]; exact hco, by rw [etx, j31, j33]; exact hpo⟩, fun i hi => by rw [erI, erK, j28, j29]; exact hkp i hi⟩ (⟨snf, fun i hi => (show i = 0 ∨ i = 1 by omega).elim (fun e9 => by rw [e9, erI]; exact sl0f) (fun e9 => by rw [e9, erI]; exact sl1f)⟩) (hsm.tr (by rw [eso, eqP, eqO]; exact z41) (by rw [er5, er6]; exact z43)) (lv_sub hl [1, 2, 3, 4, 5] rfl)
set_option maxHeartbeats 4000000 in
set_option maxRecDepth 100000 in
theorem lc_35 (l : Launch) (κ : Kt) (σ0 : Gh) (x mm out b : Nat) (t_x : zk σ0 x 7) (t_mm : zk σ0 mm 20) (t_out : zk σ0 out 24) (ttx0 : zk σ0 (kR κ x 0) 6) (hdis : DIS κ x) (hlt : l.stackTraces = false) {p : Program} {e : Env} {s : State} {m : MethodId} {below : List Frame} {meth : Method} {c : Code} {L : Nat} {xs : Nat → Int32} {i : Int32} {Q9 : State → Prop} (hx : p.tables.exec = Jvm.exec) (hb : c.code = cL_law) (hml : c.maxLocals = 9) (hown : s.vm.findClass RL = some m.cls) (hg : ∀ w ∈ GW, w.before #[Value.ref b] s = true) (hK : va_K κ.1 vwCl (kTy κ) s) (hX : XY κ (tA σ0 s.heap.size) s s.heap) (hXs : va_X b L xs s s.heap) (hbl : b < s.heap.size) (hbA : ¬ tA σ0 s.heap.size b) (zx : zroomX κ s room_1 601024 7293034) (hi0 : 0 ≤ i.toInt) (hi1 : i.toInt + 6 ≤ L) (hL9 : L ≤ 3072) {σ : Gh} {H : Heap} {locs : List Loc} {ls : Array Slot} (hT : TS κ fA σ0 σ s H locs) (hR : RI κ σ mm) (hrel : LREL κ σ x mm) (hsr : SREL κ σ x mm) (hsm : SMP κ σ x mm) (hl : lv_has ls 9 [(4, .int i), (3, .ref out), (2, .ref mm), (1, .ref x), (0, .ref b)]) (KK : ∀ (σ1 : Gh) (H : Heap) (locs : List Loc) (ls : Array Slot), TS (kX κ) fA σ0 σ1 s H locs → RI (kX κ) σ1 mm → LREL κ σ1 x mm → SREL κ σ1 x mm → SMP κ σ1 x mm → lv_has ls 9 [(4, .int i), (3, .ref out), (2, .ref mm), (1, .ref x), (0, .ref b)] → W p l e room_1 s m #[Value.ref b] below meth c H locs 601024 7293034 Q9 (F0 m 1432 ls [])) : W p l e room_1 s m #[Value.ref b] below meth c H locs 601024 7293034 Q9 (F0 m 1260 ls []) := by
  obtain ⟨y1, hy1⟩ : ∃ z, z = xs (ix i + 1) := ⟨_, rfl⟩
  obtain ⟨y2, hy2⟩ : ∃ z, z = xs (ix i + 2) := ⟨_, rfl⟩
  obtain ⟨y3, hy3⟩ : ∃ z, z = xs (ix i + 3) := ⟨_, rfl⟩
  obtain ⟨y4, hy4⟩ : ∃ z, z = xs (ix i + 4) := ⟨_, rfl⟩
  obtain ⟨y5, hy5⟩ : ∃ z, z = xs (ix i + 5) := ⟨_, rfl⟩
  have n0 : (0 : Int32).toInt = 0 := by decide
  have n1 : (1 : Int32).toInt = 1 := by decide
  have n2 : (2 : Int32).toInt = 2 := by decide
  have n3 : (3 : Int32).toInt = 3 := by decide
  have n4 : (4 : Int32).toInt = 4 := by decide
  have n5 : (5 : Int32).toInt = 5 := by decide
  obtain ⟨tx, etx⟩ : ∃ z, kR κ x 0 = z := ⟨_, rfl⟩
  have ttx : zk σ0 tx 6 := by rw [← etx]; exact ttx0
  obtain ⟨rB, erB⟩ : ∃ z, kR κ tx 0 = z := ⟨_, rfl⟩
  have trB : zk σ0 rB 14 := by rw [← erB]; exact hT.kr (hT.ref (hT.k ttx (by decide)) (by decide) (by decide) (by decide)) (by decide) (by decide)
  obtain ⟨rT, erT⟩ : ∃ z, kR κ mm 12 = z := ⟨_, rfl⟩
  have trT : zk σ0 rT 23 := by rw [← erT]; exact hT.kr (hT.ref (hT.k t_mm (by decide)) (by decide) (by decide) (by decide)) (by decide) (by decide)
  obtain ⟨rI, erI⟩ : ∃ z, kR κ x 6 = z := ⟨_, rfl⟩
  have trI : zk σ0 rI 13 := by rw [← erI]; exact hT.kr (hT.ref (hT.k t_x (by decide)) (by decide) (by decide) (by decide)) (by decide) (by decide)
  obtain ⟨rK, erK⟩ : ∃ z, kR κ mm 4 = z := ⟨_, rfl⟩
  have trK : zk σ0 rK 29 := by rw [← erK]; exact hT.kr (hT.ref (hT.k t_mm (by decide)) (by decide) (by decide) (by decide)) (by decide) (by decide)
  obtain ⟨hlen, ⟨hal, hnn⟩, ⟨hco, hpo⟩, hkp⟩ := hrel
  rw [etx] at hlen hal hco hpo
  rw [erB, erT] at hal
  rw [erT] at hnn
  rw [erI, erK] at hkp
  have btx := (hT.P (hT.k ttx (by decide)) (by decide)).1
  have btxl := btx.1
  have btxh := btx.2
  obtain ⟨nw, enw⟩ : ∃ z, kR κ x 3 = z := ⟨_, rfl⟩
  have tnw : zk σ0 nw 3 := by rw [← enw]; exact hT.kr (hT.ref (hT.k t_x (by decide)) (by decide) (by decide) (by decide)) (by decide) (by decide)
  obtain ⟨tr, etr⟩ : ∃ z, kR κ x 4 = z := ⟨_, rfl⟩
  have ttr : zk σ0 tr 3 := by rw [← etr]; exact hT.kr (hT.ref (hT.k t_x (by decide)) (by decide) (by decide) (by decide)) (by decide) (by decide)
  obtain ⟨rs5, ers5⟩ : ∃ z, kR κ x 5 = z := ⟨_, rfl⟩
  have trs5 : zk σ0 rs5 12 := by rw [← ers5]; exact hT.kr (hT.ref (hT.k t_x (by decide)) (by decide) (by decide) (by decide)) (by decide) (by decide)
  obtain ⟨sl0, esl0⟩ : ∃ z, kR κ rs5 0 = z := ⟨_, rfl⟩
  have tsl0 : zk σ0 sl0 3 := by rw [← esl0]; exact hT.kr (hT.ref (hT.k trs5 (by decide)) (by decide) (by decide) (by decide)) (by decide) (by decide)
  obtain ⟨sl1, esl1⟩ : ∃ z, kR κ rs5 1 = z := ⟨_, rfl⟩
  have tsl1 : zk σ0 sl1 3 := by rw [← esl1]; exact hT.kr (hT.ref (hT.k trs5 (by decide)) (by decide) (by decide) (by decide)) (by decide) (by decide)
  obtain ⟨rW, erW⟩ : ∃ z, kR κ mm 1 = z := ⟨_, rfl⟩
  have trW : zk σ0 rW 21 := by rw [← erW]; exact hT.kr (hT.ref (hT.k t_mm (by decide)) (by decide) (by decide) (by decide)) (by decide) (by decide)
  obtain ⟨rS, erS⟩ : ∃ z, kR κ mm 3 = z := ⟨_, rfl⟩
  have trS : zk σ0 rS 22 := by rw [← erS]; exact hT.kr (hT.ref (hT.k t_mm (by decide)) (by decide) (by decide) (by decide)) (by decide) (by decide)
  obtain ⟨so, eso⟩ : ∃ z, kR κ x 1 = z := ⟨_, rfl⟩
  have tso : zk σ0 so 4 := by rw [← eso]; exact hT.kr (hT.ref (hT.k t_x (by decide)) (by decide) (by decide) (by decide)) (by decide) (by decide)
  obtain ⟨qP, eqP⟩ : ∃ z, kR κ so 0 = z := ⟨_, rfl⟩
  have tqP : zk σ0 qP 8 := by rw [← eqP]; exact hT.kr (hT.ref (hT.k tso (by decide)) (by decide) (by decide) (by decide)) (by decide) (by decide)
  obtain ⟨qO, eqO⟩ : ∃ z, kR κ so 1 = z := ⟨_, rfl⟩
  have tqO : zk σ0 qO 16 := by rw [← eqO]; exact hT.kr (hT.ref (hT.k tso (by decide)) (by decide) (by decide) (by decide)) (by decide) (by decide)
  obtain ⟨r5, er5⟩ : ∃ z, kR κ mm 5 = z := ⟨_, rfl⟩
  have tr5 : zk σ0 r5 25 := by rw [← er5]; exact hT.kr (hT.ref (hT.k t_mm (by decide)) (by decide) (by decide) (by decide)) (by decide) (by decide)
  obtain ⟨r6, er6⟩ : ∃ z, kR κ mm 6 = z := ⟨_, rfl⟩
  have tr6 : zk σ0 r6 26 := by rw [← er6]; exact hT.kr (hT.ref (hT.k t_mm (by decide)) (by decide) (by decide) (by decide)) (by decide) (by decide)
  obtain ⟨hnw, hsl⟩ := hsr
  obtain ⟨hd1, ⟨hd2, hd3⟩, hd4, hd5, hd6, hd7⟩ := hdis
  have d_nt : nw ≠ tr := by rw [← enw, ← etr]; exact hd2
  have d_n0 : nw ≠ sl0 := by rw [← enw, ← esl0, ← ers5]; exact hd3 0 (by decide)
  have d_t0 : sl0 ≠ tr := by rw [← etr, ← esl0, ← ers5]; exact fun q => hd4 0 (by decide) q.symm
  have d_n1 : nw ≠ sl1 := by rw [← enw, ← esl1, ← ers5]; exact hd3 1 (by decide)
  have d_t1 : sl1 ≠ tr := by rw [← etr, ← esl1, ← ers5]; exact fun q => hd4 1 (by decide) q.symm
  have d_01 : sl0 ≠ sl1 := by rw [← esl0, ← esl1, ← ers5]; exact hd5
  have knw : zk σ nw 3 := hT.k tnw (by decide)
  have ksl0 : zk σ sl0 3 := hT.k tsl0 (by decide)
  have ksl1 : zk σ sl1 3 := hT.k tsl1 (by decide)
  have hq9 := hsm.src hd6
  rw [er5, er6] at hq9
  have hli9 : PLI (rN σ mm) (plf (zI σ r5)) := by have z9 := hR.2.2.1; rw [er5] at z9; exact z9.li
  have hw7 : (zI σ nw 7).toInt = (zJ σ rW 0).toInt := by rw [← enw, ← erW]; exact hnw.1
  have hb7 := Int32.le_toInt (zI σ nw 7)
  have hc7 := Int32.toInt_lt (zI σ nw 7)
  have hw8 : (zI σ nw 8).toInt = (zJ σ rW 1).toInt := by rw [← enw, ← erW]; exact hnw.2.1
  have hb8 := Int32.le_toInt (zI σ nw 8)
  have hc8 := Int32.toInt_lt (zI σ nw 8)
  have hw9 : (zI σ nw 9).toInt = (zJ σ rW 2).toInt := by rw [← enw, ← erW]; exact hnw.2.2
  have hb9 := Int32.le_toInt (zI σ nw 9)
  have hc9 := Int32.toInt_lt (zI σ nw 9)
  refine lv_aload_n hx hb dL_law_1260 rfl (lv_at hl 3 rfl) ?_
  refine lv_aload_n hx hb dL_law_1261 rfl (lv_at hl 4 rfl) ?_
  refine lv_iload hx hb dL_law_1262 (lv_at hl 0 rfl) ?_
  refine lv_iconst (v := 1) hx hb dL_law_1264 (by decide) ?_
  refine lv_iadd hx hb dL_law_1265 ?_
  refine g_add (by omega) (by omega) (fun t1 ht1 => ?_)
  refine va_sld hx hb hXs hbl hbA hT.2.2.2 (g_in (by omega) (by omega)) dL_law_1266 ?_
  refine ti y1 (by rw [hy1]; exact congrArg xs (show t1.toNatClampNeg = ix i + 1 from by show t1.toInt.toNat = ix i + 1; unfold ix; omega)) ?_
  refine lv_aload_n hx hb dL_law_1267 rfl (lv_at hl 4 rfl) ?_
  refine lv_iload hx hb dL_law_1268 (lv_at hl 0 rfl) ?_
  refine lv_iconst (v := 2) hx hb dL_law_1270 (by decide) ?_
  refine lv_iadd hx hb dL_law_1271 ?_
  refine g_add (by omega) (by omega) (fun t2 ht2 => ?_)
  refine va_sld hx hb hXs hbl hbA hT.2.2.2 (g_in (by omega) (by omega)) dL_law_1272 ?_
  refine ti y2 (by rw [hy2]; exact congrArg xs (show t2.toNatClampNeg = ix i + 2 from by show t2.toInt.toNat = ix i + 2; unfold ix; omega)) ?_
  refine lv_aload_n hx hb dL_law_1273 rfl (lv_at hl 1 rfl) ?_
  have hTo := hT
  refine tHi (n := 4) (As := [.ref x, .int y1, .int y2, .ref out]) (rest := []) hx hb hml hown hg hT hK hX (L_bitsBy (N := rN σ mm) (P := plf (zI σ r5)) (V := plf (zI σ r6)) l κ σ x y1 y2 out (hT.k t_x (by decide)) (hT.k t_out (by decide)) hq9.1 hli9 hq9.2.1 hq9.2.2.1 hd7 hlt) sub_hfCv_fA (mwHS k1175 k1176 k83 k1177) ⟨by decide, by decide, by decide +kernel⟩ ⟨(Nat.le_of_ble_eq_true rfl), (Nat.le_of_ble_eq_true rfl)⟩ rfl hl.1 rfl (Nat.le_of_ble_eq_true rfl) dL_law_1274 zx (fun r4 s3 H locs hφ hE hT => ?_)
  obtain ⟨f5, f6⟩ := hφ
  have R7 := hR.ext hE ⟨rfl, rfl, fun _ => rfl, fun _ => rfl, fun _ => rfl, fun _ => rfl⟩
  have a8 : (zI s3 tx 1).toInt = (zI σ tx 1).toInt := by rw [(hTo.k ttx (by decide)).eI hE (by decide) rfl]
  have j9 : zI s3 rB = zI σ rB := (show zI s3 rB = zI σ rB from funext fun k => (hTo.k trB (by decide)).eI hE (by decide) rfl)
  have j10 : zI s3 rT = zI σ rT := (show zI s3 rT = zI σ rT from funext fun k => (hTo.k trT (by decide)).eI hE (by decide) rfl)
  have j11 : zI s3 rI = zI σ rI := (show zI s3 rI = zI σ rI from funext fun k => (hTo.k trI (by decide)).eI hE (by decide) rfl)
  have j12 : zI s3 rK = zI σ rK := (show zI s3 rK = zI σ rK from funext fun k => (hTo.k trK (by decide)).eI hE (by decide) rfl)
  have j13 : zI s3 tx 2 = zI σ tx 2 := (hTo.k ttx (by decide)).eI hE (by decide) rfl
  have j14 : zI s3 tx 3 = zI σ tx 3 := (hTo.k ttx (by decide)).eI hE (by decide) rfl
  have j15 : zI s3 mm 15 = zI σ mm 15 := (hTo.k t_mm (by decide)).eI hE (by decide) rfl
  have j16 : zI s3 mm 16 = zI σ mm 16 := (hTo.k t_mm (by decide)).eI hE (by decide) rfl
  have f59 := f5
  try rw [etr] at f59
  try rw [enw] at f59
  have n17 : zI s3 nw 7 = zI σ nw 7 ∧ zI s3 nw 8 = zI σ nw 8 ∧ zI s3 nw 9 = zI σ nw 9 := f59 nw d_nt (hTo.k tnw (by decide))
  have n18 : zI s3 sl0 7 = zI σ sl0 7 ∧ zI s3 sl0 8 = zI σ sl0 8 ∧ zI s3 sl0 9 = zI σ sl0 9 := f59 sl0 d_t0 (hTo.k tsl0 (by decide))
  have n19 : zI s3 sl1 7 = zI σ sl1 7 ∧ zI s3 sl1 8 = zI σ sl1 8 ∧ zI s3 sl1 9 = zI σ sl1 9 := f59 sl1 d_t1 (hTo.k tsl1 (by decide))
  have n20 : ∀ j : Nat, j < 3 → zJ s3 rW j = zJ σ rW j := fun j hj => (hTo.k trW (by decide)).eJ hE (by decide) rfl
  have n21 : zJ s3 rS = zJ σ rS := (show zJ s3 rS = zJ σ rS from funext fun k => (hTo.k trS (by decide)).eJ hE (by decide) rfl)
  have z22 : zI s3 so 2 = zI σ so 2 ∧ zI s3 so 6 = zI σ so 6 ∧ zI s3 qP = zI σ qP ∧ zI s3 qO = zI σ qO := ⟨(hTo.k tso (by decide)).eI hE (by decide) rfl, (hTo.k tso (by decide)).eI hE (by decide) rfl, funext fun q9 => (hTo.k tqP (by decide)).eI hE (by decide) rfl, funext fun q9 => (hTo.k tqO (by decide)).eI hE (by decide) rfl⟩
  have z23 : zI s3 mm 7 = zI σ mm 7 ∧ zI s3 mm 8 = zI σ mm 8 ∧ zI s3 r5 = zI σ r5 ∧ zI s3 r6 = zI σ r6 := ⟨(hTo.k t_mm (by decide)).eI hE (by decide) rfl, (hTo.k t_mm (by decide)).eI hE (by decide) rfl, funext fun q9 => (hTo.k tr5 (by decide)).eI hE (by decide) rfl, funext fun q9 => (hTo.k tr6 (by decide)).eI hE (by decide) rfl⟩
  have cb1 := f6
  rw [hq9.2.2.2, enw, hw9] at cb1
  have a24 : (zI s3 mm 13).toInt = (zI σ mm 13).toInt := by rw [(hTo.k t_mm (by decide)).eI hE (by decide) rfl]
  refine lv_istore (lv' := [(5, .int r4), (4, .int i), (3, .ref out), (2, .ref mm), (1, .ref x), (0, .ref b)]) hx hb dL_law_1277 hl (by decide) rfl (fun ls hl => ?_)
  refine lv_aload_n hx hb dL_law_1279 rfl (lv_at hl 3 rfl) ?_
  refine lv_aload_n hx hb dL_law_1280 rfl (lv_at hl 5 rfl) ?_
  refine lv_iload hx hb dL_law_1281 (lv_at hl 1 rfl) ?_
  refine lv_iconst (v := 1) hx hb dL_law_1283 (by decide) ?_
  refine lv_iadd hx hb dL_law_1284 ?_
  refine g_add (by omega) (by omega) (fun t25 ht25 => ?_)
  refine va_sld hx hb hXs hbl hbA hT.2.2.2 (g_in (by omega) (by omega)) dL_law_1285 ?_
  refine ti y1 (by rw [hy1]; exact congrArg xs (show t25.toNatClampNeg = ix i + 1 from by show t25.toInt.toNat = ix i + 1; unfold ix; omega)) ?_
  refine lv_aload_n hx hb dL_law_1286 rfl (lv_at hl 5 rfl) ?_
  refine lv_iload hx hb dL_law_1287 (lv_at hl 1 rfl) ?_
  refine lv_iconst (v := 2) hx hb dL_law_1289 (by decide) ?_
  refine lv_iadd hx hb dL_law_1290 ?_
  refine g_add (by omega) (by omega) (fun t26 ht26 => ?_)
  refine va_sld hx hb hXs hbl hbA hT.2.2.2 (g_in (by omega) (by omega)) dL_law_1291 ?_
  refine ti y2 (by rw [hy2]; exact congrArg xs (show t26.toNatClampNeg = ix i + 2 from by show t26.toInt.toNat = ix i + 2; unfold ix; omega)) ?_
  have hTo := hT
  refine tVi (n := 2) (As := [.int y1, .int y2]) (rest := []) hx hb hml hown hg hT hK hX (X6v_bitsBy l (kX κ) s3 mm y1 y2 (hT.k t_mm (by decide)) R7 trivial trivial (by rw [show rN s3 mm = rN σ mm from by unfold rN; rw [z23.1], show kR (kX κ) mm 6 = r6 from er6, z23.2.2.2]; exact hq9.2.2.1)) sub_gZb_fA (mwV k1670 k1671 k1672 k92 k1673) ⟨rfl, by decide, by decide, by decide +kernel⟩ ⟨(Nat.le_of_ble_eq_true rfl), (Nat.le_of_ble_eq_true rfl)⟩ (hT.o20 (hT.k t_mm (by decide))) rfl rfl hl.1 rfl (Nat.le_of_ble_eq_true rfl) dL_law_1292 zx (fun r28 s27 H locs hφ hE hT => ?_)
  obtain ⟨f29, f30, f31⟩ := hφ
  have a32 : (zI s27 tx 1).toInt = (zI s3 tx 1).toInt := by rw [(hTo.k ttx (by decide)).eI hE (by decide) rfl]
  have j33 : zI s27 rB = zI σ rB := ((show zI s27 rB = zI s3 rB from funext fun k => (hTo.k trB (by decide)).eI hE (by decide) rfl)).trans j9
  have j34 : zI s27 rT = zI σ rT := ((show zI s27 rT = zI s3 rT from funext fun k => (hTo.k trT (by decide)).eI hE (by decide) rfl)).trans j10
  have j35 : zI s27 rI = zI σ rI := ((show zI s27 rI = zI s3 rI from funext fun k => (hTo.k trI (by decide)).eI hE (by decide) rfl)).trans j11
  have j36 : zI s27 rK = zI σ rK := ((show zI s27 rK = zI s3 rK from funext fun k => (hTo.k trK (by decide)).eI hE (by decide) rfl)).trans j12
  have j37 : zI s27 tx 2 = zI σ tx 2 := ((hTo.k ttx (by decide)).eI hE (by decide) rfl).trans j13
  have j38 : zI s27 tx 3 = zI σ tx 3 := ((hTo.k ttx (by decide)).eI hE (by decide) rfl).trans j14
  have j39 : zI s27 mm 15 = zI σ mm 15 := ((hTo.k t_mm (by decide)).eI hE (by decide) rfl).trans j15
  have j40 : zI s27 mm 16 = zI σ mm 16 := ((hTo.k t_mm (by decide)).eI hE (by decide) rfl).trans j16
  have n41 : zI s27 nw 7 = zI s3 nw 7 ∧ zI s27 nw 8 = zI s3 nw 8 ∧ zI s27 nw 9 = zI s3 nw 9 := ⟨(hTo.k tnw (by decide)).eI hE (by decide) rfl, (hTo.k tnw (by decide)).eI hE (by decide) rfl, (hTo.k tnw (by decide)).eI hE (by decide) rfl⟩
  have n42 : zI s27 nw 7 = zI σ nw 7 ∧ zI s27 nw 8 = zI σ nw 8 ∧ zI s27 nw 9 = zI σ nw 9 := ⟨n41.1.trans n17.1, n41.2.1.trans n17.2.1, n41.2.2.trans n17.2.2⟩
  have n43 : zI s27 sl0 7 = zI s3 sl0 7 ∧ zI s27 sl0 8 = zI s3 sl0 8 ∧ zI s27 sl0 9 = zI s3 sl0 9 := ⟨(hTo.k tsl0 (by decide)).eI hE (by decide) rfl, (hTo.k tsl0 (by decide)).eI hE (by decide) rfl, (hTo.k tsl0 (by decide)).eI hE (by decide) rfl⟩
  have n44 : zI s27 sl0 7 = zI σ sl0 7 ∧ zI s27 sl0 8 = zI σ sl0 8 ∧ zI s27 sl0 9 = zI σ sl0 9 := ⟨n43.1.trans n18.1, n43.2.1.trans n18.2.1, n43.2.2.trans n18.2.2⟩
  have n45 : zI s27 sl1 7 = zI s3 sl1 7 ∧ zI s27 sl1 8 = zI s3 sl1 8 ∧ zI s27 sl1 9 = zI s3 sl1 9 := ⟨(hTo.k tsl1 (by decide)).eI hE (by decide) rfl, (hTo.k tsl1 (by decide)).eI hE (by decide) rfl, (hTo.k tsl1 (by decide)).eI hE (by decide) rfl⟩
  have n46 : zI s27 sl1 7 = zI σ sl1 7 ∧ zI s27 sl1 8 = zI σ sl1 8 ∧ zI s27 sl1 9 = zI σ sl1 9 := ⟨n45.1.trans n19.1, n45.2.1.trans n19.2.1, n45.2.2.trans n19.2.2⟩
  have n47 : ∀ j : Nat, j < 3 → zJ s27 rW j = zJ s3 rW j := fun j hj => by have z9 := f30 j hj; (try rw [show kR (kX κ) mm 1 = rW from erW] at z9); exact z9
  have n48 : ∀ j : Nat, j < 3 → zJ s27 rW j = zJ σ rW j := fun j hj => (n47 j hj).trans (n20 j hj)
  have n49 : zJ s27 rS = zJ σ rS := (show zJ s27 rS = zJ s3 rS from funext fun k => (hTo.k trS (by decide)).eJ hE (by decide) rfl).trans n21
  have z50 : zI s27 so 2 = zI s3 so 2 ∧ zI s27 so 6 = zI s3 so 6 ∧ zI s27 qP = zI s3 qP ∧ zI s27 qO = zI s3 qO := ⟨(hTo.k tso (by decide)).eI hE (by decide) rfl, (hTo.k tso (by decide)).eI hE (by decide) rfl, funext fun q9 => (hTo.k tqP (by decide)).eI hE (by decide) rfl, funext fun q9 => (hTo.k tqO (by decide)).eI hE (by decide) rfl⟩
  have z51 : zI s27 so 2 = zI σ so 2 ∧ zI s27 so 6 = zI σ so 6 ∧ zI s27 qP = zI σ qP ∧ zI s27 qO = zI σ qO := ⟨z50.1.trans z22.1, z50.2.1.trans z22.2.1, z50.2.2.1.trans z22.2.2.1, z50.2.2.2.trans z22.2.2.2⟩
  have z52 : zI s27 mm 7 = zI s3 mm 7 ∧ zI s27 mm 8 = zI s3 mm 8 ∧ zI s27 r5 = zI s3 r5 ∧ zI s27 r6 = zI s3 r6 := ⟨(hTo.k t_mm (by decide)).eI hE (by decide) rfl, (hTo.k t_mm (by decide)).eI hE (by decide) rfl, funext fun q9 => (hTo.k tr5 (by decide)).eI hE (by decide) rfl, funext fun q9 => (hTo.k tr6 (by decide)).eI hE (by decide) rfl⟩
  have z53 : zI s27 mm 7 = zI σ mm 7 ∧ zI s27 mm 8 = zI σ mm 8 ∧ zI s27 r5 = zI σ r5 ∧ zI s27 r6 = zI σ r6 := ⟨z52.1.trans z23.1, z52.2.1.trans z23.2.1, z52.2.2.1.trans z23.2.2.1, z52.2.2.2.trans z23.2.2.2⟩
  have a54 : (zJ s27 out 0).toInt = (zJ s3 out 0).toInt := by rw [(hTo.k t_out (by decide)).eJ hE (by decide) rfl]
  rw [show kR (kX κ) mm 1 = rW from erW, show kR (kX κ) mm 5 = r5 from er5, show kR (kX κ) mm 6 = r6 from er6, show zJ s3 rW 2 = zJ σ rW 2 from n20 2 (by decide)] at f31
  rw [show rN s3 mm = rN σ mm from by unfold rN; rw [z23.1], z23.2.1, z23.2.2.1, z23.2.2.2] at f31
  have ar35 : (r4.toInt = 0 ∧ (zI s27 mm 0).toInt = 0 ∧ (zJ s27 out 0).toInt = r28.toInt) ∨ (r4.toInt = 1 ∧ (zI s27 mm 0).toInt = 1) := by
    rcases cb1 with ⟨r1, rg, Y1, hR1, hb1⟩ | ⟨r1, c1⟩ <;> rcases f31 with ⟨z1, c2⟩ | ⟨z1, g1, g2, g3, g4, Y2, hR2, hb2⟩
    · exfalso; omega
    · have e9 : Y1 = Y2 := hR1.one hR2
      rw [e9] at hb1
      exact Or.inl ⟨r1, z1, by omega⟩
    · exact Or.inr ⟨r1, z1⟩
    · exfalso; omega
  clear cb1 f31
  have a55 : (zI s27 mm 13).toInt = (zI s3 mm 13).toInt := by rw [(hTo.k t_mm (by decide)).eI hE (by decide) rfl]
  refine lv_istore (lv' := [(6, .int r28), (5, .int r4), (4, .int i), (3, .ref out), (2, .ref mm), (1, .ref x), (0, .ref b)]) hx hb dL_law_1295 hl (by decide) rfl (fun ls hl => ?_)
  refine lv_aload_n hx hb dL_law_1297 rfl (lv_at hl 4 rfl) ?_
  have hTo := hT
  refine tVi (n := 0) (As := []) (rest := []) hx hb hml hown hg hT hK hX (X6_thrown l (kX κ) s27 mm (hT.k t_mm (by decide)) f29) sub_fE_fA (mwV k1301 k1302 k1303 k92 k1304) ⟨rfl, by decide, by decide, by decide +kernel⟩ ⟨(Nat.le_of_ble_eq_true rfl), (Nat.le_of_ble_eq_true rfl)⟩ (hT.o20 (hT.k t_mm (by decide))) rfl rfl hl.1 rfl (Nat.le_of_ble_eq_true rfl) dL_law_1298 zx (fun r57 s56 H locs hφ hE hT => ?_)
  have f58 := hφ
  have R59 := f29.ext hE ⟨rfl, rfl, fun _ => rfl, fun _ => rfl, fun _ => rfl, fun _ => rfl⟩
  have a60 : (zI s56 tx 1).toInt = (zI s27 tx 1).toInt := by rw [(hTo.k ttx (by decide)).eI hE (by decide) rfl]
  have j61 : zI s56 rB = zI σ rB := ((show zI s56 rB = zI s27 rB from funext fun k => (hTo.k trB (by decide)).eI hE (by decide) rfl)).trans j33
  have j62 : zI s56 rT = zI σ rT := ((show zI s56 rT = zI s27 rT from funext fun k => (hTo.k trT (by decide)).eI hE (by decide) rfl)).trans j34
  have j63 : zI s56 rI = zI σ rI := ((show zI s56 rI = zI s27 rI from funext fun k => (hTo.k trI (by decide)).eI hE (by decide) rfl)).trans j35
  have j64 : zI s56 rK = zI σ rK := ((show zI s56 rK = zI s27 rK from funext fun k => (hTo.k trK (by decide)).eI hE (by decide) rfl)).trans j36
  have j65 : zI s56 tx 2 = zI σ tx 2 := ((hTo.k ttx (by decide)).eI hE (by decide) rfl).trans j37
  have j66 : zI s56 tx 3 = zI σ tx 3 := ((hTo.k ttx (by decide)).eI hE (by decide) rfl).trans j38
  have j67 : zI s56 mm 15 = zI σ mm 15 := ((hTo.k t_mm (by decide)).eI hE (by decide) rfl).trans j39
  have j68 : zI s56 mm 16 = zI σ mm 16 := ((hTo.k t_mm (by decide)).eI hE (by decide) rfl).trans j40
  have n69 : zI s56 nw 7 = zI s27 nw 7 ∧ zI s56 nw 8 = zI s27 nw 8 ∧ zI s56 nw 9 = zI s27 nw 9 := ⟨(hTo.k tnw (by decide)).eI hE (by decide) rfl, (hTo.k tnw (by decide)).eI hE (by decide) rfl, (hTo.k tnw (by decide)).eI hE (by decide) rfl⟩
  have n70 : zI s56 nw 7 = zI σ nw 7 ∧ zI s56 nw 8 = zI σ nw 8 ∧ zI s56 nw 9 = zI σ nw 9 := ⟨n69.1.trans n42.1, n69.2.1.trans n42.2.1, n69.2.2.trans n42.2.2⟩
  have n71 : zI s56 sl0 7 = zI s27 sl0 7 ∧ zI s56 sl0 8 = zI s27 sl0 8 ∧ zI s56 sl0 9 = zI s27 sl0 9 := ⟨(hTo.k tsl0 (by decide)).eI hE (by decide) rfl, (hTo.k tsl0 (by decide)).eI hE (by decide) rfl, (hTo.k tsl0 (by decide)).eI hE (by decide) rfl⟩
  have n72 : zI s56 sl0 7 = zI σ sl0 7 ∧ zI s56 sl0 8 = zI σ sl0 8 ∧ zI s56 sl0 9 = zI σ sl0 9 := ⟨n71.1.trans n44.1, n71.2.1.trans n44.2.1, n71.2.2.trans n44.2.2⟩
  have n73 : zI s56 sl1 7 = zI s27 sl1 7 ∧ zI s56 sl1 8 = zI s27 sl1 8 ∧ zI s56 sl1 9 = zI s27 sl1 9 := ⟨(hTo.k tsl1 (by decide)).eI hE (by decide) rfl, (hTo.k tsl1 (by decide)).eI hE (by decide) rfl, (hTo.k tsl1 (by decide)).eI hE (by decide) rfl⟩
  have n74 : zI s56 sl1 7 = zI σ sl1 7 ∧ zI s56 sl1 8 = zI σ sl1 8 ∧ zI s56 sl1 9 = zI σ sl1 9 := ⟨n73.1.trans n46.1, n73.2.1.trans n46.2.1, n73.2.2.trans n46.2.2⟩
  have n75 : ∀ j : Nat, j < 3 → zJ s56 rW j = zJ s27 rW j := fun j hj => (hTo.k trW (by decide)).eJ hE (by decide) rfl
  have n76 : ∀ j : Nat, j < 3 → zJ s56 rW j = zJ σ rW j := fun j hj => (n75 j hj).trans (n48 j hj)
  have n77 : zJ s56 rS = zJ σ rS := (show zJ s56 rS = zJ s27 rS from funext fun k => (hTo.k trS (by decide)).eJ hE (by decide) rfl).trans n49
  have z78 : zI s56 so 2 = zI s27 so 2 ∧ zI s56 so 6 = zI s27 so 6 ∧ zI s56 qP = zI s27 qP ∧ zI s56 qO = zI s27 qO := ⟨(hTo.k tso (by decide)).eI hE (by decide) rfl, (hTo.k tso (by decide)).eI hE (by decide) rfl, funext fun q9 => (hTo.k tqP (by decide)).eI hE (by decide) rfl, funext fun q9 => (hTo.k tqO (by decide)).eI hE (by decide) rfl⟩
  have z79 : zI s56 so 2 = zI σ so 2 ∧ zI s56 so 6 = zI σ so 6 ∧ zI s56 qP = zI σ qP ∧ zI s56 qO = zI σ qO := ⟨z78.1.trans z51.1, z78.2.1.trans z51.2.1, z78.2.2.1.trans z51.2.2.1, z78.2.2.2.trans z51.2.2.2⟩
  have z80 : zI s56 mm 7 = zI s27 mm 7 ∧ zI s56 mm 8 = zI s27 mm 8 ∧ zI s56 r5 = zI s27 r5 ∧ zI s56 r6 = zI s27 r6 := ⟨(hTo.k t_mm (by decide)).eI hE (by decide) rfl, (hTo.k t_mm (by decide)).eI hE (by decide) rfl, funext fun q9 => (hTo.k tr5 (by decide)).eI hE (by decide) rfl, funext fun q9 => (hTo.k tr6 (by decide)).eI hE (by decide) rfl⟩
  have z81 : zI s56 mm 7 = zI σ mm 7 ∧ zI s56 mm 8 = zI σ mm 8 ∧ zI s56 r5 = zI σ r5 ∧ zI s56 r6 = zI σ r6 := ⟨z80.1.trans z53.1, z80.2.1.trans z53.2.1, z80.2.2.1.trans z53.2.2.1, z80.2.2.2.trans z53.2.2.2⟩
  have a82 : (zJ s56 out 0).toInt = (zJ s27 out 0).toInt := by rw [(hTo.k t_out (by decide)).eJ hE (by decide) rfl]
  have a83 : (zI s56 mm 13).toInt = (zI s27 mm 13).toInt := by rw [(hTo.k t_mm (by decide)).eI hE (by decide) rfl]
  refine lv_iload hx hb dL_law_1301 (lv_at hl 1 rfl) ?_
  refine lv_icmp_eq (tgt := 1308) hx hb dL_law_1303 (by decide) (fun c9 => ?_) (fun c9 => ?_)
  · have c8 := gi_eq c9
    refine lv_iload hx hb dL_law_1308 (lv_at hl 1 rfl) ?_
    refine lv_if_ne (tgt := 1325) hx hb dL_law_1310 (by decide) (fun c9 => ?_) (fun c9 => ?_)
    · have c7 := gi_ne c9
      refine lv_goto (tgt := 1432) hx hb dL_law_1325 (by decide) ?_
      have sl0f : zI s56 rI 0 ≠ 0 → SLT κ s56 x mm 0 := fun hq => (hsl 0 (by decide) (fun q9 => hq (by rw [erI] at q9; rw [j63]; exact q9))).tr (by rw [ers5, esl0]; exact n72) (fun j hj => by rw [erS, n77])
      have sl1f : zI s56 rI 1 ≠ 0 → SLT κ s56 x mm 1 := fun hq => (hsl 1 (by decide) (fun q9 => hq (by rw [erI] at q9; rw [j63]; exact q9))).tr (by rw [ers5, esl1]; exact n74) (fun j hj => by rw [erS, n77])
      exact KK s56 _ _ _ hT R59 ⟨by rw [etx]; omega, ⟨by rw [etx, erB, erT, j61, j62]; exact tal_less hal (by omega), by rw [erT, j62]; exact tnn_less hnn (by omega)⟩, ⟨by rw [etx, j65, j67]; exact hco, by rw [etx, j66, j68]; exact hpo⟩, fun i hi => by rw [erI, erK, j63, j64]; exact hkp i hi⟩ (⟨hnw.tr (by rw [enw]; exact n70) (by rw [erW]; exact n76), fun i hi => (show i = 0 ∨ i = 1 by omega).elim (fun e9 => by rw [e9, erI]; exact sl0f) (fun e9 => by rw [e9, erI]; exact sl1f)⟩) (hsm.tr (by rw [eso, eqP, eqO]; exact z79) (by rw [er5, er6]; exact z81)) (lv_sub hl [2, 3, 4, 5, 6] rfl)
    · have c7 := gi_eq c9
      refine lv_aload_n hx hb dL_law_1313 rfl (lv_at hl 3 rfl) ?_
      refine lv_iconst (v := 0) hx hb dL_law_1314 (by decide) ?_
      refine va_lald hx hb hK (hT.o24 (hT.k t_out (by decide))).one 0 1 rfl rfl (g_in (by omega) (by omega)) dL_law_1315 ?_
      refine lv_topl (fun t84 ht84 => ?_)
      have gt84 : t84.toInt = (zJ s56 out 0).toInt := by rw [ht84]; rfl
      refine lv_iload hx hb dL_law_1316 (lv_at hl 0 rfl) ?_
      refine lv_i2l hx hb dL_law_1318 rfl ?_
      refine g_i2l (fun t85 ht85 => ?_)
      refine W.lcmp hx hb dL_law_1319 ?_
      refine lv_if_eq (tgt := 1325) hx hb dL_law_1320 (by decide) (fun c9 => ?_) (fun c9 => ?_)
      · have c7 := gl_eq c9
        refine lv_goto (tgt := 1432) hx hb dL_law_1325 (by decide) ?_
        have sl0f : zI s56 rI 0 ≠ 0 → SLT κ s56 x mm 0 := fun hq => (hsl 0 (by decide) (fun q9 => hq (by rw [erI] at q9; rw [j63]; exact q9))).tr (by rw [ers5, esl0]; exact n72) (fun j hj => by rw [erS, n77])
        have sl1f : zI s56 rI 1 ≠ 0 → SLT κ s56 x mm 1 := fun hq => (hsl 1 (by decide) (fun q9 => hq (by rw [erI] at q9; rw [j63]; exact q9))).tr (by rw [ers5, esl1]; exact n74) (fun j hj => by rw [erS, n77])
        exact KK s56 _ _ _ hT R59 ⟨by rw [etx]; omega, ⟨by rw [etx, erB, erT, j61, j62]; exact tal_less hal (by omega), by rw [erT, j62]; exact tnn_less hnn (by omega)⟩, ⟨by rw [etx, j65, j67]; exact hco, by rw [etx, j66, j68]; exact hpo⟩, fun i hi => by rw [erI, erK, j63, j64]; exact hkp i hi⟩ (⟨hnw.tr (by rw [enw]; exact n70) (by rw [erW]; exact n76), fun i hi => (show i = 0 ∨ i = 1 by omega).elim (fun e9 => by rw [e9, erI]; exact sl0f) (fun e9 => by rw [e9, erI]; exact sl1f)⟩) (hsm.tr (by rw [eso, eqP, eqO]; exact z79) (by rw [er5, er6]; exact z81)) (lv_sub hl [2, 3, 4, 5, 6] rfl)
      · exfalso; have c8 := gl_ne c9; omega
  · exfalso; have c8 := gi_ne c9; omega
