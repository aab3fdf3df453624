/-! The law, a row a case: those that change what is alike, or compare -/
theorem sub_fE_fA : ∀ t k, fA t k = false → fE t k = false := by
  intro t k h
  simp [fE, fA] at h ⊢ <;> omega
theorem sub_fT1_fA : ∀ t k, fA t k = false → fT1 t k = false := by
  intro t k h
  simp [fT1, fA] at h ⊢ <;> omega
theorem sub_gAp_fA : ∀ t k, fA t k = false → gAp t k = false := by
  intro t k h
  simp [gAp, fA] at h ⊢ <;> omega
theorem sub_gLd_fA : ∀ t k, fA t k = false → gLd t k = false := by
  intro t k h
  simp [gLd, fA] at h ⊢ <;> omega
theorem sub_gR_fA : ∀ t k, fA t k = false → gR t k = false := by
  intro t k h
  simp [gR, fA] at h ⊢ <;> omega
theorem sub_gS_fA : ∀ t k, fA t k = false → gS t k = false := by
  intro t k h
  simp [gS, fA] at h ⊢ <;> omega
theorem sub_gXs_fA : ∀ t k, fA t k = false → gXs t k = false := by
  intro t k h
  simp [gXs, fA] at h ⊢ <;> omega
theorem sub_hfCp_fA : ∀ t k, fA t k = false → hfCp t k = false := by
  intro t k h
  simp [hfCp, fA] at h ⊢ <;> omega
theorem sub_hfLd_fA : ∀ t k, fA t k = false → hfLd t k = false := by
  intro t k h
  simp [hfLd, fA] at h ⊢ <;> omega
theorem sub_hfSv_fA : ∀ t k, fA t k = false → hfSv t k = false := by
  intro t k h
  simp [hfSv, fA] at h ⊢ <;> omega
theorem k83 : Cond.initialized RL ∈ GW := gm 83 (by decide +kernel) (by decide +kernel)
theorem k411 : Cond.methodLink RL 116 yX5_append ∈ GW := gm 411 (by decide +kernel) (by decide +kernel)
theorem k412 : Cond.instanceMethod yX5_append ∈ GW := gm 412 (by decide +kernel) (by decide +kernel)
theorem k413 : Cond.selects RX5 yX5_append yX5_append ∈ GW := gm 413 (by decide +kernel) (by decide +kernel)
theorem k414 : Cond.code yX5_append cX5_append 6 (some .int) ∈ GW := gm 414 (by decide +kernel) (by decide +kernel)
theorem k423 : Cond.methodLink RL 131 yX5_errorCode ∈ GW := gm 423 (by decide +kernel) (by decide +kernel)
theorem k424 : Cond.instanceMethod yX5_errorCode ∈ GW := gm 424 (by decide +kernel) (by decide +kernel)
theorem k425 : Cond.selects RX5 yX5_errorCode yX5_errorCode ∈ GW := gm 425 (by decide +kernel) (by decide +kernel)
theorem k426 : Cond.code yX5_errorCode cX5_errorCode 1 (some .int) ∈ GW := gm 426 (by decide +kernel) (by decide +kernel)
theorem k427 : Cond.methodLink RL 135 yX5_errorPosition ∈ GW := gm 427 (by decide +kernel) (by decide +kernel)
theorem k428 : Cond.instanceMethod yX5_errorPosition ∈ GW := gm 428 (by decide +kernel) (by decide +kernel)
theorem k429 : Cond.selects RX5 yX5_errorPosition yX5_errorPosition ∈ GW := gm 429 (by decide +kernel) (by decide +kernel)
theorem k430 : Cond.code yX5_errorPosition cX5_errorPosition 1 (some .int) ∈ GW := gm 430 (by decide +kernel) (by decide +kernel)
theorem k681 : Cond.methodLink RL 127 yL_load ∈ GW := gm 681 (by decide +kernel) (by decide +kernel)
theorem k682 : Cond.static yL_load ∈ GW := gm 682 (by decide +kernel) (by decide +kernel)
theorem k683 : Cond.codeWith yL_load cL_load 3 (some .int) [(0, 8, 11, 19)] ∈ GW := gm 683 (by decide +kernel) (by decide +kernel)
theorem k1189 : Cond.methodLink RL 255 yL_save ∈ GW := gm 1189 (by decide +kernel) (by decide +kernel)
theorem k1190 : Cond.static yL_save ∈ GW := gm 1190 (by decide +kernel) (by decide +kernel)
theorem k1191 : Cond.codeWith yL_save cL_save 3 (some .int) [(0, 5, 8, 13)] ∈ GW := gm 1191 (by decide +kernel) (by decide +kernel)
theorem k1196 : Cond.methodLink RL 259 yL_restore ∈ GW := gm 1196 (by decide +kernel) (by decide +kernel)
theorem k1197 : Cond.static yL_restore ∈ GW := gm 1197 (by decide +kernel) (by decide +kernel)
theorem k1198 : Cond.codeWith yL_restore cL_restore 3 (some .int) [(0, 5, 8, 13), (0, 5, 11, 51)] ∈ GW := gm 1198 (by decide +kernel) (by decide +kernel)
theorem k1301 : Cond.methodLink RL 120 yX6_append ∈ GW := gm 1301 (by decide +kernel) (by decide +kernel)
theorem k1302 : Cond.instanceMethod yX6_append ∈ GW := gm 1302 (by decide +kernel) (by decide +kernel)
theorem k1303 : Cond.selects RX6 yX6_append yX6_append ∈ GW := gm 1303 (by decide +kernel) (by decide +kernel)
theorem k1304 : Cond.code yX6_append cX6_append 6 (some .int) ∈ GW := gm 1304 (by decide +kernel) (by decide +kernel)
theorem k1320 : Cond.methodLink RL 130 yX6_load ∈ GW := gm 1320 (by decide +kernel) (by decide +kernel)
theorem k1321 : Cond.instanceMethod yX6_load ∈ GW := gm 1321 (by decide +kernel) (by decide +kernel)
theorem k1322 : Cond.selects RX6 yX6_load yX6_load ∈ GW := gm 1322 (by decide +kernel) (by decide +kernel)
theorem k1323 : Cond.code yX6_load cX6_load 1 (some .int) ∈ GW := gm 1323 (by decide +kernel) (by decide +kernel)
theorem k1395 : Cond.methodLink RL 134 yX6_errorCode ∈ GW := gm 1395 (by decide +kernel) (by decide +kernel)
theorem k1396 : Cond.instanceMethod yX6_errorCode ∈ GW := gm 1396 (by decide +kernel) (by decide +kernel)
theorem k1397 : Cond.selects RX6 yX6_errorCode yX6_errorCode ∈ GW := gm 1397 (by decide +kernel) (by decide +kernel)
theorem k1398 : Cond.code yX6_errorCode cX6_errorCode 1 (some .int) ∈ GW := gm 1398 (by decide +kernel) (by decide +kernel)
theorem k1399 : Cond.methodLink RL 138 yX6_errorPosition ∈ GW := gm 1399 (by decide +kernel) (by decide +kernel)
theorem k1400 : Cond.instanceMethod yX6_errorPosition ∈ GW := gm 1400 (by decide +kernel) (by decide +kernel)
theorem k1401 : Cond.selects RX6 yX6_errorPosition yX6_errorPosition ∈ GW := gm 1401 (by decide +kernel) (by decide +kernel)
theorem k1402 : Cond.code yX6_errorPosition cX6_errorPosition 1 (some .int) ∈ GW := gm 1402 (by decide +kernel) (by decide +kernel)
theorem k1686 : Cond.methodLink RL 258 yX6_save ∈ GW := gm 1686 (by decide +kernel) (by decide +kernel)
theorem k1687 : Cond.instanceMethod yX6_save ∈ GW := gm 1687 (by decide +kernel) (by decide +kernel)
theorem k1688 : Cond.selects RX6 yX6_save yX6_save ∈ GW := gm 1688 (by decide +kernel) (by decide +kernel)
theorem k1689 : Cond.code yX6_save cX6_save 3 none ∈ GW := gm 1689 (by decide +kernel) (by decide +kernel)
theorem k1690 : Cond.methodLink RL 261 yX6_restore ∈ GW := gm 1690 (by decide +kernel) (by decide +kernel)
theorem k1691 : Cond.instanceMethod yX6_restore ∈ GW := gm 1691 (by decide +kernel) (by decide +kernel)
theorem k1692 : Cond.selects RX6 yX6_restore yX6_restore ∈ GW := gm 1692 (by decide +kernel) (by decide +kernel)
theorem k1693 : Cond.code yX6_restore cX6_restore 3 none ∈ GW := gm 1693 (by decide +kernel) (by decide +kernel)
theorem dL_law_220 : decode cL_law 220 = .ok (.aload_n 1, 1) := by decide +kernel
theorem dL_law_221 : decode cL_law 221 = .ok (.aload_n 0, 1) := by decide +kernel
theorem dL_law_222 : decode cL_law 222 = .ok (.iload 4, 2) := by decide +kernel
theorem dL_law_224 : decode cL_law 224 = .ok (.iconst 1, 1) := by decide +kernel
theorem dL_law_225 : decode cL_law 225 = .ok (.iadd, 1) := by decide +kernel
theorem dL_law_226 : decode cL_law 226 = .ok (.iaload, 1) := by decide +kernel
theorem dL_law_227 : decode cL_law 227 = .ok (.aload_n 0, 1) := by decide +kernel
theorem dL_law_228 : decode cL_law 228 = .ok (.iload 4, 2) := by decide +kernel
theorem dL_law_230 : decode cL_law 230 = .ok (.iconst 2, 1) := by decide +kernel
theorem dL_law_231 : decode cL_law 231 = .ok (.iadd, 1) := by decide +kernel
theorem dL_law_232 : decode cL_law 232 = .ok (.iaload, 1) := by decide +kernel
theorem dL_law_233 : decode cL_law 233 = .ok (.aload_n 0, 1) := by decide +kernel
theorem dL_law_234 : decode cL_law 234 = .ok (.iload 4, 2) := by decide +kernel
theorem dL_law_236 : decode cL_law 236 = .ok (.iconst 3, 1) := by decide +kernel
theorem dL_law_237 : decode cL_law 237 = .ok (.iadd, 1) := by decide +kernel
theorem dL_law_238 : decode cL_law 238 = .ok (.iaload, 1) := by decide +kernel
theorem dL_law_239 : decode cL_law 239 = .ok (.aload_n 0, 1) := by decide +kernel
theorem dL_law_240 : decode cL_law 240 = .ok (.iload 4, 2) := by decide +kernel
theorem dL_law_242 : decode cL_law 242 = .ok (.iconst 4, 1) := by decide +kernel
theorem dL_law_243 : decode cL_law 243 = .ok (.iadd, 1) := by decide +kernel
theorem dL_law_244 : decode cL_law 244 = .ok (.iaload, 1) := by decide +kernel
theorem dL_law_245 : decode cL_law 245 = .ok (.aload_n 0, 1) := by decide +kernel
theorem dL_law_246 : decode cL_law 246 = .ok (.iload 4, 2) := by decide +kernel
theorem dL_law_248 : decode cL_law 248 = .ok (.iconst 5, 1) := by decide +kernel
theorem dL_law_249 : decode cL_law 249 = .ok (.iadd, 1) := by decide +kernel
theorem dL_law_250 : decode cL_law 250 = .ok (.iaload, 1) := by decide +kernel
theorem dL_law_251 : decode cL_law 251 = .ok (.invokevirtual 116, 3) := by decide +kernel
theorem dL_law_254 : decode cL_law 254 = .ok (.pop, 1) := by decide +kernel
theorem dL_law_255 : decode cL_law 255 = .ok (.aload_n 2, 1) := by decide +kernel
theorem dL_law_256 : decode cL_law 256 = .ok (.aload_n 0, 1) := by decide +kernel
theorem dL_law_257 : decode cL_law 257 = .ok (.iload 4, 2) := by decide +kernel
theorem dL_law_259 : decode cL_law 259 = .ok (.iconst 1, 1) := by decide +kernel
theorem dL_law_260 : decode cL_law 260 = .ok (.iadd, 1) := by decide +kernel
theorem dL_law_261 : decode cL_law 261 = .ok (.iaload, 1) := by decide +kernel
theorem dL_law_262 : decode cL_law 262 = .ok (.aload_n 0, 1) := by decide +kernel
theorem dL_law_263 : decode cL_law 263 = .ok (.iload 4, 2) := by decide +kernel
theorem dL_law_265 : decode cL_law 265 = .ok (.iconst 2, 1) := by decide +kernel
theorem dL_law_266 : decode cL_law 266 = .ok (.iadd, 1) := by decide +kernel
theorem dL_law_267 : decode cL_law 267 = .ok (.iaload, 1) := by decide +kernel
theorem dL_law_268 : decode cL_law 268 = .ok (.aload_n 0, 1) := by decide +kernel
theorem dL_law_269 : decode cL_law 269 = .ok (.iload 4, 2) := by decide +kernel
theorem dL_law_271 : decode cL_law 271 = .ok (.iconst 3, 1) := by decide +kernel
theorem dL_law_272 : decode cL_law 272 = .ok (.iadd, 1) := by decide +kernel
theorem dL_law_273 : decode cL_law 273 = .ok (.iaload, 1) := by decide +kernel
theorem dL_law_274 : decode cL_law 274 = .ok (.aload_n 0, 1) := by decide +kernel
theorem dL_law_275 : decode cL_law 275 = .ok (.iload 4, 2) := by decide +kernel
theorem dL_law_277 : decode cL_law 277 = .ok (.iconst 4, 1) := by decide +kernel
theorem dL_law_278 : decode cL_law 278 = .ok (.iadd, 1) := by decide +kernel
theorem dL_law_279 : decode cL_law 279 = .ok (.iaload, 1) := by decide +kernel
theorem dL_law_280 : decode cL_law 280 = .ok (.aload_n 0, 1) := by decide +kernel
theorem dL_law_281 : decode cL_law 281 = .ok (.iload 4, 2) := by decide +kernel
theorem dL_law_283 : decode cL_law 283 = .ok (.iconst 5, 1) := by decide +kernel
theorem dL_law_284 : decode cL_law 284 = .ok (.iadd, 1) := by decide +kernel
theorem dL_law_285 : decode cL_law 285 = .ok (.iaload, 1) := by decide +kernel
theorem dL_law_286 : decode cL_law 286 = .ok (.invokevirtual 120, 3) := by decide +kernel
theorem dL_law_289 : decode cL_law 289 = .ok (.pop, 1) := by decide +kernel
theorem dL_law_290 : decode cL_law 290 = .ok (.goto 1114, 3) := by decide +kernel
theorem dL_law_321 : decode cL_law 321 = .ok (.aload_n 1, 1) := by decide +kernel
theorem dL_law_322 : decode cL_law 322 = .ok (.aload_n 3, 1) := by decide +kernel
theorem dL_law_323 : decode cL_law 323 = .ok (.invokestatic 127, 3) := by decide +kernel
theorem dL_law_326 : decode cL_law 326 = .ok (.istore 5, 2) := by decide +kernel
theorem dL_law_328 : decode cL_law 328 = .ok (.aload_n 2, 1) := by decide +kernel
theorem dL_law_329 : decode cL_law 329 = .ok (.invokevirtual 130, 3) := by decide +kernel
theorem dL_law_332 : decode cL_law 332 = .ok (.istore 6, 2) := by decide +kernel
theorem dL_law_334 : decode cL_law 334 = .ok (.goto 1070, 3) := by decide +kernel
theorem dL_law_337 : decode cL_law 337 = .ok (.aload_n 1, 1) := by decide +kernel
theorem dL_law_338 : decode cL_law 338 = .ok (.invokevirtual 131, 3) := by decide +kernel
theorem dL_law_341 : decode cL_law 341 = .ok (.pop, 1) := by decide +kernel
theorem dL_law_342 : decode cL_law 342 = .ok (.aload_n 2, 1) := by decide +kernel
theorem dL_law_343 : decode cL_law 343 = .ok (.invokevirtual 134, 3) := by decide +kernel
theorem dL_law_346 : decode cL_law 346 = .ok (.pop, 1) := by decide +kernel
theorem dL_law_347 : decode cL_law 347 = .ok (.goto 1057, 3) := by decide +kernel
theorem dL_law_350 : decode cL_law 350 = .ok (.aload_n 1, 1) := by decide +kernel
theorem dL_law_351 : decode cL_law 351 = .ok (.invokevirtual 135, 3) := by decide +kernel
theorem dL_law_354 : decode cL_law 354 = .ok (.pop, 1) := by decide +kernel
theorem dL_law_355 : decode cL_law 355 = .ok (.aload_n 2, 1) := by decide +kernel
theorem dL_law_356 : decode cL_law 356 = .ok (.invokevirtual 138, 3) := by decide +kernel
theorem dL_law_359 : decode cL_law 359 = .ok (.pop, 1) := by decide +kernel
theorem dL_law_360 : decode cL_law 360 = .ok (.goto 1044, 3) := by decide +kernel
theorem dL_law_1354 : decode cL_law 1354 = .ok (.aload_n 1, 1) := by decide +kernel
theorem dL_law_1355 : decode cL_law 1355 = .ok (.aload_n 0, 1) := by decide +kernel
theorem dL_law_1356 : decode cL_law 1356 = .ok (.iload 4, 2) := by decide +kernel
theorem dL_law_1358 : decode cL_law 1358 = .ok (.iconst 1, 1) := by decide +kernel
theorem dL_law_1359 : decode cL_law 1359 = .ok (.iadd, 1) := by decide +kernel
theorem dL_law_1360 : decode cL_law 1360 = .ok (.iaload, 1) := by decide +kernel
theorem dL_law_1361 : decode cL_law 1361 = .ok (.invokestatic 255, 3) := by decide +kernel
theorem dL_law_1364 : decode cL_law 1364 = .ok (.istore 5, 2) := by decide +kernel
theorem dL_law_1366 : decode cL_law 1366 = .ok (.aload_n 2, 1) := by decide +kernel
theorem dL_law_1367 : decode cL_law 1367 = .ok (.aload_n 0, 1) := by decide +kernel
theorem dL_law_1368 : decode cL_law 1368 = .ok (.iload 4, 2) := by decide +kernel
theorem dL_law_1370 : decode cL_law 1370 = .ok (.iconst 1, 1) := by decide +kernel
theorem dL_law_1371 : decode cL_law 1371 = .ok (.iadd, 1) := by decide +kernel
theorem dL_law_1372 : decode cL_law 1372 = .ok (.iaload, 1) := by decide +kernel
theorem dL_law_1373 : decode cL_law 1373 = .ok (.invokevirtual 258, 3) := by decide +kernel
theorem dL_law_1376 : decode cL_law 1376 = .ok (.goto 28, 3) := by decide +kernel
theorem dL_law_1379 : decode cL_law 1379 = .ok (.aload_n 1, 1) := by decide +kernel
theorem dL_law_1380 : decode cL_law 1380 = .ok (.aload_n 0, 1) := by decide +kernel
theorem dL_law_1381 : decode cL_law 1381 = .ok (.iload 4, 2) := by decide +kernel
theorem dL_law_1383 : decode cL_law 1383 = .ok (.iconst 1, 1) := by decide +kernel
theorem dL_law_1384 : decode cL_law 1384 = .ok (.iadd, 1) := by decide +kernel
theorem dL_law_1385 : decode cL_law 1385 = .ok (.iaload, 1) := by decide +kernel
theorem dL_law_1386 : decode cL_law 1386 = .ok (.invokestatic 259, 3) := by decide +kernel
theorem dL_law_1389 : decode cL_law 1389 = .ok (.istore 5, 2) := by decide +kernel
theorem dL_law_1391 : decode cL_law 1391 = .ok (.aload_n 2, 1) := by decide +kernel
theorem dL_law_1392 : decode cL_law 1392 = .ok (.aload_n 0, 1) := by decide +kernel
theorem dL_law_1393 : decode cL_law 1393 = .ok (.iload 4, 2) := by decide +kernel
theorem dL_law_1395 : decode cL_law 1395 = .ok (.iconst 1, 1) := by decide +kernel
theorem dL_law_1396 : decode cL_law 1396 = .ok (.iadd, 1) := by decide +kernel
theorem dL_law_1397 : decode cL_law 1397 = .ok (.iaload, 1) := by decide +kernel
theorem dL_law_1398 : decode cL_law 1398 = .ok (.invokevirtual 261, 3) := by decide +kernel
theorem dL_law_1401 : decode cL_law 1401 = .ok (.goto 3, 3) := by decide +kernel
set_option maxHeartbeats 4000000 in
set_option maxRecDepth 100000 in
theorem lc_0 (l : Launch) (κ : Kt) (σ0 : Gh) (x mm out b : Nat) (t_x : zk σ0 x 7) (t_mm : zk σ0 mm 20) (t_out : zk σ0 out 24) (ttx0 : zk σ0 (kR κ x 0) 6) (hdis : DIS κ x) (hlt : l.stackTraces = false) {p : Program} {e : Env} {s : State} {m : MethodId} {below : List Frame} {meth : Method} {c : Code} {L : Nat} {xs : Nat → Int32} {i : Int32} {Q9 : State → Prop} (hx : p.tables.exec = Jvm.exec) (hb : c.code = cL_law) (hml : c.maxLocals = 9) (hown : s.vm.findClass RL = some m.cls) (hg : ∀ w ∈ GW, w.before #[Value.ref b] s = true) (hK : va_K κ.1 vwCl (kTy κ) s) (hX : XY κ (tA σ0 s.heap.size) s s.heap) (hXs : va_X b L xs s s.heap) (hbl : b < s.heap.size) (hbA : ¬ tA σ0 s.heap.size b) (zx : zroomX κ s room_1 601024 7293034) (hi0 : 0 ≤ i.toInt) (hi1 : i.toInt + 6 ≤ L) (hL9 : L ≤ 3072) {σ : Gh} {H : Heap} {locs : List Loc} {ls : Array Slot} (hT : TS κ fA σ0 σ s H locs) (hR : RI κ σ mm) (hrel : LREL κ σ x mm) (hsr : SREL κ σ x mm) (hl : lv_has ls 9 [(4, .int i), (3, .ref out), (2, .ref mm), (1, .ref x), (0, .ref b)]) (KK : ∀ (σ1 : Gh) (H : Heap) (locs : List Loc) (ls : Array Slot), TS (kX κ) fA σ0 σ1 s H locs → RI (kX κ) σ1 mm → LREL κ σ1 x mm → SREL κ σ1 x mm → lv_has ls 9 [(4, .int i), (3, .ref out), (2, .ref mm), (1, .ref x), (0, .ref b)] → W p l e room_1 s m #[Value.ref b] below meth c H locs 601024 7293034 Q9 (F0 m 1404 ls [])) : W p l e room_1 s m #[Value.ref b] below meth c H locs 601024 7293034 Q9 (F0 m 220 ls []) := by
  obtain ⟨y1, hy1⟩ : ∃ z, z = xs (ix i + 1) := ⟨_, rfl⟩
  obtain ⟨y2, hy2⟩ : ∃ z, z = xs (ix i + 2) := ⟨_, rfl⟩
  obtain ⟨y3, hy3⟩ : ∃ z, z = xs (ix i + 3) := ⟨_, rfl⟩
  obtain ⟨y4, hy4⟩ : ∃ z, z = xs (ix i + 4) := ⟨_, rfl⟩
  obtain ⟨y5, hy5⟩ : ∃ z, z = xs (ix i + 5) := ⟨_, rfl⟩
  have n0 : (0 : Int32).toInt = 0 := by decide
  have n1 : (1 : Int32).toInt = 1 := by decide
  have n2 : (2 : Int32).toInt = 2 := by decide
  have n3 : (3 : Int32).toInt = 3 := by decide
  have n4 : (4 : Int32).toInt = 4 := by decide
  have n5 : (5 : Int32).toInt = 5 := by decide
  obtain ⟨tx, etx⟩ : ∃ z, kR κ x 0 = z := ⟨_, rfl⟩
  have ttx : zk σ0 tx 6 := by rw [← etx]; exact ttx0
  obtain ⟨rB, erB⟩ : ∃ z, kR κ tx 0 = z := ⟨_, rfl⟩
  have trB : zk σ0 rB 14 := by rw [← erB]; exact hT.kr (hT.ref (hT.k ttx (by decide)) (by decide) (by decide) (by decide)) (by decide) (by decide)
  obtain ⟨rT, erT⟩ : ∃ z, kR κ mm 12 = z := ⟨_, rfl⟩
  have trT : zk σ0 rT 23 := by rw [← erT]; exact hT.kr (hT.ref (hT.k t_mm (by decide)) (by decide) (by decide) (by decide)) (by decide) (by decide)
  obtain ⟨rI, erI⟩ : ∃ z, kR κ x 6 = z := ⟨_, rfl⟩
  have trI : zk σ0 rI 13 := by rw [← erI]; exact hT.kr (hT.ref (hT.k t_x (by decide)) (by decide) (by decide) (by decide)) (by decide) (by decide)
  obtain ⟨rK, erK⟩ : ∃ z, kR κ mm 4 = z := ⟨_, rfl⟩
  have trK : zk σ0 rK 29 := by rw [← erK]; exact hT.kr (hT.ref (hT.k t_mm (by decide)) (by decide) (by decide) (by decide)) (by decide) (by decide)
  obtain ⟨hlen, ⟨hal, hnn⟩, ⟨hco, hpo⟩, hkp⟩ := hrel
  rw [etx] at hlen hal hco hpo
  rw [erB, erT] at hal
  rw [erT] at hnn
  rw [erI, erK] at hkp
  have btx := (hT.P (hT.k ttx (by decide)) (by decide)).1
  have btxl := btx.1
  have btxh := btx.2
  obtain ⟨nw, enw⟩ : ∃ z, kR κ x 3 = z := ⟨_, rfl⟩
  have tnw : zk σ0 nw 3 := by rw [← enw]; exact hT.kr (hT.ref (hT.k t_x (by decide)) (by decide) (by decide) (by decide)) (by decide) (by decide)
  obtain ⟨tr, etr⟩ : ∃ z, kR κ x 4 = z := ⟨_, rfl⟩
  have ttr : zk σ0 tr 3 := by rw [← etr]; exact hT.kr (hT.ref (hT.k t_x (by decide)) (by decide) (by decide) (by decide)) (by decide) (by decide)
  obtain ⟨rs5, ers5⟩ : ∃ z, kR κ x 5 = z := ⟨_, rfl⟩
  have trs5 : zk σ0 rs5 12 := by rw [← ers5]; exact hT.kr (hT.ref (hT.k t_x (by decide)) (by decide) (by decide) (by decide)) (by decide) (by decide)
  obtain ⟨sl0, esl0⟩ : ∃ z, kR κ rs5 0 = z := ⟨_, rfl⟩
  have tsl0 : zk σ0 sl0 3 := by rw [← esl0]; exact hT.kr (hT.ref (hT.k trs5 (by decide)) (by decide) (by decide) (by decide)) (by decide) (by decide)
  obtain ⟨sl1, esl1⟩ : ∃ z, kR κ rs5 1 = z := ⟨_, rfl⟩
  have tsl1 : zk σ0 sl1 3 := by rw [← esl1]; exact hT.kr (hT.ref (hT.k trs5 (by decide)) (by decide) (by decide) (by decide)) (by decide) (by decide)
  obtain ⟨rW, erW⟩ : ∃ z, kR κ mm 1 = z := ⟨_, rfl⟩
  have trW : zk σ0 rW 21 := by rw [← erW]; exact hT.kr (hT.ref (hT.k t_mm (by decide)) (by decide) (by decide) (by decide)) (by decide) (by decide)
  obtain ⟨rS, erS⟩ : ∃ z, kR κ mm 3 = z := ⟨_, rfl⟩
  have trS : zk σ0 rS 22 := by rw [← erS]; exact hT.kr (hT.ref (hT.k t_mm (by decide)) (by decide) (by decide) (by decide)) (by decide) (by decide)
  obtain ⟨hnw, hsl⟩ := hsr
  obtain ⟨hd1, ⟨hd2, hd3⟩, hd4, hd5⟩ := hdis
  have d_nt : nw ≠ tr := by rw [← enw, ← etr]; exact hd2
  have d_n0 : nw ≠ sl0 := by rw [← enw, ← esl0, ← ers5]; exact hd3 0 (by decide)
  have d_t0 : sl0 ≠ tr := by rw [← etr, ← esl0, ← ers5]; exact fun q => hd4 0 (by decide) q.symm
  have d_n1 : nw ≠ sl1 := by rw [← enw, ← esl1, ← ers5]; exact hd3 1 (by decide)
  have d_t1 : sl1 ≠ tr := by rw [← etr, ← esl1, ← ers5]; exact fun q => hd4 1 (by decide) q.symm
  have d_01 : sl0 ≠ sl1 := by rw [← esl0, ← esl1, ← ers5]; exact hd5
  have knw : zk σ nw 3 := hT.k tnw (by decide)
  have ksl0 : zk σ sl0 3 := hT.k tsl0 (by decide)
  have ksl1 : zk σ sl1 3 := hT.k tsl1 (by decide)
  refine lv_aload_n hx hb dL_law_220 rfl (lv_at hl 3 rfl) ?_
  refine lv_aload_n hx hb dL_law_221 rfl (lv_at hl 4 rfl) ?_
  refine lv_iload hx hb dL_law_222 (lv_at hl 0 rfl) ?_
  refine lv_iconst (v := 1) hx hb dL_law_224 (by decide) ?_
  refine lv_iadd hx hb dL_law_225 ?_
  refine g_add (by omega) (by omega) (fun t1 ht1 => ?_)
  refine va_sld hx hb hXs hbl hbA hT.2.2.2 (g_in (by omega) (by omega)) dL_law_226 ?_
  refine ti y1 (by rw [hy1]; exact congrArg xs (show t1.toNatClampNeg = ix i + 1 from by show t1.toInt.toNat = ix i + 1; unfold ix; omega)) ?_
  refine lv_aload_n hx hb dL_law_227 rfl (lv_at hl 4 rfl) ?_
  refine lv_iload hx hb dL_law_228 (lv_at hl 0 rfl) ?_
  refine lv_iconst (v := 2) hx hb dL_law_230 (by decide) ?_
  refine lv_iadd hx hb dL_law_231 ?_
  refine g_add (by omega) (by omega) (fun t2 ht2 => ?_)
  refine va_sld hx hb hXs hbl hbA hT.2.2.2 (g_in (by omega) (by omega)) dL_law_232 ?_
  refine ti y2 (by rw [hy2]; exact congrArg xs (show t2.toNatClampNeg = ix i + 2 from by show t2.toInt.toNat = ix i + 2; unfold ix; omega)) ?_
  refine lv_aload_n hx hb dL_law_233 rfl (lv_at hl 4 rfl) ?_
  refine lv_iload hx hb dL_law_234 (lv_at hl 0 rfl) ?_
  refine lv_iconst (v := 3) hx hb dL_law_236 (by decide) ?_
  refine lv_iadd hx hb dL_law_237 ?_
  refine g_add (by omega) (by omega) (fun t3 ht3 => ?_)
  refine va_sld hx hb hXs hbl hbA hT.2.2.2 (g_in (by omega) (by omega)) dL_law_238 ?_
  refine ti y3 (by rw [hy3]; exact congrArg xs (show t3.toNatClampNeg = ix i + 3 from by show t3.toInt.toNat = ix i + 3; unfold ix; omega)) ?_
  refine lv_aload_n hx hb dL_law_239 rfl (lv_at hl 4 rfl) ?_
  refine lv_iload hx hb dL_law_240 (lv_at hl 0 rfl) ?_
  refine lv_iconst (v := 4) hx hb dL_law_242 (by decide) ?_
  refine lv_iadd hx hb dL_law_243 ?_
  refine g_add (by omega) (by omega) (fun t4 ht4 => ?_)
  refine va_sld hx hb hXs hbl hbA hT.2.2.2 (g_in (by omega) (by omega)) dL_law_244 ?_
  refine ti y4 (by rw [hy4]; exact congrArg xs (show t4.toNatClampNeg = ix i + 4 from by show t4.toInt.toNat = ix i + 4; unfold ix; omega)) ?_
  refine lv_aload_n hx hb dL_law_245 rfl (lv_at hl 4 rfl) ?_
  refine lv_iload hx hb dL_law_246 (lv_at hl 0 rfl) ?_
  refine lv_iconst (v := 5) hx hb dL_law_248 (by decide) ?_
  refine lv_iadd hx hb dL_law_249 ?_
  refine g_add (by omega) (by omega) (fun t5 ht5 => ?_)
  refine va_sld hx hb hXs hbl hbA hT.2.2.2 (g_in (by omega) (by omega)) dL_law_250 ?_
  refine ti y5 (by rw [hy5]; exact congrArg xs (show t5.toNatClampNeg = ix i + 5 from by show t5.toInt.toNat = ix i + 5; unfold ix; omega)) ?_
  have hTo := hT
  refine tVi (n := 5) (As := [.int y1, .int y2, .int y3, .int y4, .int y5]) (rest := []) hx hb hml hown hg hT hK hX (X5s_append l κ σ x y1 y2 y3 y4 y5 (hT.k t_x (by decide))) sub_fT1_fA (mwV k411 k412 k413 k84 k414) ⟨rfl, by decide, by decide, by decide +kernel⟩ ⟨(Nat.le_of_ble_eq_true rfl), (Nat.le_of_ble_eq_true rfl)⟩ (hT.o7 (hT.k t_x (by decide))) rfl rfl hl.1 rfl (Nat.le_of_ble_eq_true rfl) dL_law_251 zx.dn (fun r7 s6 H locs hφ hE hT => ?_)
  have f8 := hφ
  rw [etx] at f8
  have R9 := hR.ext hE ⟨rfl, rfl, fun _ => rfl, fun _ => rfl, fun _ => rfl, fun _ => rfl⟩
  have j10 : zI s6 rT = zI σ rT := (show zI s6 rT = zI σ rT from funext fun k => (hTo.k trT (by decide)).eI hE (by decide) rfl)
  have j11 : zI s6 rI = zI σ rI := (show zI s6 rI = zI σ rI from funext fun k => (hTo.k trI (by decide)).eI hE (by decide) rfl)
  have j12 : zI s6 rK = zI σ rK := (show zI s6 rK = zI σ rK from funext fun k => (hTo.k trK (by decide)).eI hE (by decide) rfl)
  have j13 : zI s6 tx 2 = zI σ tx 2 := (hTo.k ttx (by decide)).eI hE (by decide) rfl
  have j14 : zI s6 tx 3 = zI σ tx 3 := (hTo.k ttx (by decide)).eI hE (by decide) rfl
  have j15 : zI s6 mm 15 = zI σ mm 15 := (hTo.k t_mm (by decide)).eI hE (by decide) rfl
  have j16 : zI s6 mm 16 = zI σ mm 16 := (hTo.k t_mm (by decide)).eI hE (by decide) rfl
  have n17 : zI s6 nw 7 = zI σ nw 7 ∧ zI s6 nw 8 = zI σ nw 8 ∧ zI s6 nw 9 = zI σ nw 9 := ⟨(hTo.k tnw (by decide)).eI hE (by decide) rfl, (hTo.k tnw (by decide)).eI hE (by decide) rfl, (hTo.k tnw (by decide)).eI hE (by decide) rfl⟩
  have n18 : zI s6 sl0 7 = zI σ sl0 7 ∧ zI s6 sl0 8 = zI σ sl0 8 ∧ zI s6 sl0 9 = zI σ sl0 9 := ⟨(hTo.k tsl0 (by decide)).eI hE (by decide) rfl, (hTo.k tsl0 (by decide)).eI hE (by decide) rfl, (hTo.k tsl0 (by decide)).eI hE (by decide) rfl⟩
  have n19 : zI s6 sl1 7 = zI σ sl1 7 ∧ zI s6 sl1 8 = zI σ sl1 8 ∧ zI s6 sl1 9 = zI σ sl1 9 := ⟨(hTo.k tsl1 (by decide)).eI hE (by decide) rfl, (hTo.k tsl1 (by decide)).eI hE (by decide) rfl, (hTo.k tsl1 (by decide)).eI hE (by decide) rfl⟩
  have n20 : ∀ j : Nat, j < 3 → zJ s6 rW j = zJ σ rW j := fun j hj => (hTo.k trW (by decide)).eJ hE (by decide) rfl
  have n21 : zJ s6 rS = zJ σ rS := (show zJ s6 rS = zJ σ rS from funext fun k => (hTo.k trS (by decide)).eJ hE (by decide) rfl)
  rw [erB] at f8
  have a22 : (zI s6 mm 13).toInt = (zI σ mm 13).toInt := by rw [(hTo.k t_mm (by decide)).eI hE (by decide) rfl]
  refine lv_pop hx hb dL_law_254 rfl ?_
  refine lv_aload_n hx hb dL_law_255 rfl (lv_at hl 2 rfl) ?_
  refine lv_aload_n hx hb dL_law_256 rfl (lv_at hl 4 rfl) ?_
  refine lv_iload hx hb dL_law_257 (lv_at hl 0 rfl) ?_
  refine lv_iconst (v := 1) hx hb dL_law_259 (by decide) ?_
  refine lv_iadd hx hb dL_law_260 ?_
  refine g_add (by omega) (by omega) (fun t23 ht23 => ?_)
  refine va_sld hx hb hXs hbl hbA hT.2.2.2 (g_in (by omega) (by omega)) dL_law_261 ?_
  refine ti y1 (by rw [hy1]; exact congrArg xs (show t23.toNatClampNeg = ix i + 1 from by show t23.toInt.toNat = ix i + 1; unfold ix; omega)) ?_
  refine lv_aload_n hx hb dL_law_262 rfl (lv_at hl 4 rfl) ?_
  refine lv_iload hx hb dL_law_263 (lv_at hl 0 rfl) ?_
  refine lv_iconst (v := 2) hx hb dL_law_265 (by decide) ?_
  refine lv_iadd hx hb dL_law_266 ?_
  refine g_add (by omega) (by omega) (fun t24 ht24 => ?_)
  refine va_sld hx hb hXs hbl hbA hT.2.2.2 (g_in (by omega) (by omega)) dL_law_267 ?_
  refine ti y2 (by rw [hy2]; exact congrArg xs (show t24.toNatClampNeg = ix i + 2 from by show t24.toInt.toNat = ix i + 2; unfold ix; omega)) ?_
  refine lv_aload_n hx hb dL_law_268 rfl (lv_at hl 4 rfl) ?_
  refine lv_iload hx hb dL_law_269 (lv_at hl 0 rfl) ?_
  refine lv_iconst (v := 3) hx hb dL_law_271 (by decide) ?_
  refine lv_iadd hx hb dL_law_272 ?_
  refine g_add (by omega) (by omega) (fun t25 ht25 => ?_)
  refine va_sld hx hb hXs hbl hbA hT.2.2.2 (g_in (by omega) (by omega)) dL_law_273 ?_
  refine ti y3 (by rw [hy3]; exact congrArg xs (show t25.toNatClampNeg = ix i + 3 from by show t25.toInt.toNat = ix i + 3; unfold ix; omega)) ?_
  refine lv_aload_n hx hb dL_law_274 rfl (lv_at hl 4 rfl) ?_
  refine lv_iload hx hb dL_law_275 (lv_at hl 0 rfl) ?_
  refine lv_iconst (v := 4) hx hb dL_law_277 (by decide) ?_
  refine lv_iadd hx hb dL_law_278 ?_
  refine g_add (by omega) (by omega) (fun t26 ht26 => ?_)
  refine va_sld hx hb hXs hbl hbA hT.2.2.2 (g_in (by omega) (by omega)) dL_law_279 ?_
  refine ti y4 (by rw [hy4]; exact congrArg xs (show t26.toNatClampNeg = ix i + 4 from by show t26.toInt.toNat = ix i + 4; unfold ix; omega)) ?_
  refine lv_aload_n hx hb dL_law_280 rfl (lv_at hl 4 rfl) ?_
  refine lv_iload hx hb dL_law_281 (lv_at hl 0 rfl) ?_
  refine lv_iconst (v := 5) hx hb dL_law_283 (by decide) ?_
  refine lv_iadd hx hb dL_law_284 ?_
  refine g_add (by omega) (by omega) (fun t27 ht27 => ?_)
  refine va_sld hx hb hXs hbl hbA hT.2.2.2 (g_in (by omega) (by omega)) dL_law_285 ?_
  refine ti y5 (by rw [hy5]; exact congrArg xs (show t27.toNatClampNeg = ix i + 5 from by show t27.toInt.toNat = ix i + 5; unfold ix; omega)) ?_
  have hTo := hT
  refine tVi (n := 5) (As := [.int y1, .int y2, .int y3, .int y4, .int y5]) (rest := []) hx hb hml hown hg hT hK hX (X6s_append l κ s6 mm y1 y2 y3 y4 y5 (hT.k t_mm (by decide)) R9) sub_gAp_fA (mwV k1301 k1302 k1303 k92 k1304) ⟨rfl, by decide, by decide, by decide +kernel⟩ ⟨(Nat.le_of_ble_eq_true rfl), (Nat.le_of_ble_eq_true rfl)⟩ (hT.o20 (hT.k t_mm (by decide))) rfl rfl hl.1 rfl (Nat.le_of_ble_eq_true rfl) dL_law_286 zx.dn (fun r29 s28 H locs hφ hE hT => ?_)
  obtain ⟨f30, f31⟩ := hφ
  have a32 : (zI s28 tx 1).toInt = (zI s6 tx 1).toInt := by rw [(hTo.k ttx (by decide)).eI hE (by decide) rfl]
  have j33 : zI s28 rB = zI s6 rB := (show zI s28 rB = zI s6 rB from funext fun k => (hTo.k trB (by decide)).eI hE (by decide) rfl)
  have j34 : zI s28 rI = zI σ rI := ((show zI s28 rI = zI s6 rI from funext fun k => (hTo.k trI (by decide)).eI hE (by decide) rfl)).trans j11
  have j35 : zI s28 rK = zI σ rK := ((show zI s28 rK = zI s6 rK from funext fun k => (hTo.k trK (by decide)).eI hE (by decide) rfl)).trans j12
  have j36 : zI s28 tx 2 = zI σ tx 2 := ((hTo.k ttx (by decide)).eI hE (by decide) rfl).trans j13
  have j37 : zI s28 tx 3 = zI σ tx 3 := ((hTo.k ttx (by decide)).eI hE (by decide) rfl).trans j14
  have j38 : zI s28 mm 15 = zI σ mm 15 := ((hTo.k t_mm (by decide)).eI hE (by decide) rfl).trans j15
  have j39 : zI s28 mm 16 = zI σ mm 16 := ((hTo.k t_mm (by decide)).eI hE (by decide) rfl).trans j16
  have n40 : zI s28 nw 7 = zI s6 nw 7 ∧ zI s28 nw 8 = zI s6 nw 8 ∧ zI s28 nw 9 = zI s6 nw 9 := ⟨(hTo.k tnw (by decide)).eI hE (by decide) rfl, (hTo.k tnw (by decide)).eI hE (by decide) rfl, (hTo.k tnw (by decide)).eI hE (by decide) rfl⟩
  have n41 : zI s28 nw 7 = zI σ nw 7 ∧ zI s28 nw 8 = zI σ nw 8 ∧ zI s28 nw 9 = zI σ nw 9 := ⟨n40.1.trans n17.1, n40.2.1.trans n17.2.1, n40.2.2.trans n17.2.2⟩
  have n42 : zI s28 sl0 7 = zI s6 sl0 7 ∧ zI s28 sl0 8 = zI s6 sl0 8 ∧ zI s28 sl0 9 = zI s6 sl0 9 := ⟨(hTo.k tsl0 (by decide)).eI hE (by decide) rfl, (hTo.k tsl0 (by decide)).eI hE (by decide) rfl, (hTo.k tsl0 (by decide)).eI hE (by decide) rfl⟩
  have n43 : zI s28 sl0 7 = zI σ sl0 7 ∧ zI s28 sl0 8 = zI σ sl0 8 ∧ zI s28 sl0 9 = zI σ sl0 9 := ⟨n42.1.trans n18.1, n42.2.1.trans n18.2.1, n42.2.2.trans n18.2.2⟩
  have n44 : zI s28 sl1 7 = zI s6 sl1 7 ∧ zI s28 sl1 8 = zI s6 sl1 8 ∧ zI s28 sl1 9 = zI s6 sl1 9 := ⟨(hTo.k tsl1 (by decide)).eI hE (by decide) rfl, (hTo.k tsl1 (by decide)).eI hE (by decide) rfl, (hTo.k tsl1 (by decide)).eI hE (by decide) rfl⟩
  have n45 : zI s28 sl1 7 = zI σ sl1 7 ∧ zI s28 sl1 8 = zI σ sl1 8 ∧ zI s28 sl1 9 = zI σ sl1 9 := ⟨n44.1.trans n19.1, n44.2.1.trans n19.2.1, n44.2.2.trans n19.2.2⟩
  have n46 : ∀ j : Nat, j < 3 → zJ s28 rW j = zJ s6 rW j := fun j hj => (hTo.k trW (by decide)).eJ hE (by decide) rfl
  have n47 : ∀ j : Nat, j < 3 → zJ s28 rW j = zJ σ rW j := fun j hj => (n46 j hj).trans (n20 j hj)
  have n48 : zJ s28 rS = zJ σ rS := (show zJ s28 rS = zJ s6 rS from funext fun k => (hTo.k trS (by decide)).eJ hE (by decide) rfl).trans n21
  rw [erT] at f31
  refine lv_pop hx hb dL_law_289 rfl ?_
  refine lv_goto (tgt := 1404) hx hb dL_law_290 (by decide) ?_
  have sl0f : zI s28 rI 0 ≠ 0 → SLT κ s28 x mm 0 := fun hq => (hsl 0 (by decide) (fun q9 => hq (by rw [erI] at q9; rw [j34]; exact q9))).tr (by rw [ers5, esl0]; exact n43) (fun j hj => by rw [erS, n48])
  have sl1f : zI s28 rI 1 ≠ 0 → SLT κ s28 x mm 1 := fun hq => (hsl 1 (by decide) (fun q9 => hq (by rw [erI] at q9; rw [j34]; exact q9))).tr (by rw [ers5, esl1]; exact n45) (fun j hj => by rw [erS, n48])
  exact KK s28 _ _ _ hT.up f30 ⟨by rw [etx]; omega, ⟨(by rw [etx, erB, erT, j33]; rcases f8 with ⟨c1, c2, c3, c4⟩ | ⟨c1, c2, c3, c4⟩ <;> rcases f31 with ⟨m1, m2, m3, m4⟩ | ⟨m1, m2, m3, m4⟩ <;> first | (exfalso; omega) | (rw [c4, m4, j10, show (zI s28 mm 13).toInt.toNat = (zI σ mm 13).toInt.toNat + 20 from by omega, show (zI σ tx 1).toInt.toNat = (zI σ mm 13).toInt.toNat from by omega, show (zI s6 mm 13).toInt.toNat = (zI σ mm 13).toInt.toNat from by omega]; exact tal_20 hal) | (rw [c4, m4, j10]; exact tal_less hal (by omega))), (by rw [erT]; rcases f31 with ⟨m1, m2, m3, m4⟩ | ⟨m1, m2, m3, m4⟩ <;> first | (rw [m4, j10, show (zI s28 mm 13).toInt.toNat = (zI σ mm 13).toInt.toNat + 20 from by omega, show (zI s6 mm 13).toInt.toNat = (zI σ mm 13).toInt.toNat from by omega]; exact tnn_20 hnn) | (rw [m4, j10]; exact tnn_less hnn (by omega)))⟩, ⟨by rw [etx, j36, j38]; exact hco, by rw [etx, j37, j39]; exact hpo⟩, fun i hi => by rw [erI, erK, j34, j35]; exact hkp i hi⟩ (⟨hnw.tr (by rw [enw]; exact n41) (by rw [erW]; exact n47), fun i hi => (show i = 0 ∨ i = 1 by omega).elim (fun e9 => by rw [e9, erI]; exact sl0f) (fun e9 => by rw [e9, erI]; exact sl1f)⟩) (lv_sub hl [0, 1, 2, 3, 4] rfl)
set_option maxHeartbeats 4000000 in
set_option maxRecDepth 100000 in
theorem lc_2 (l : Launch) (κ : Kt) (σ0 : Gh) (x mm out b : Nat) (t_x : zk σ0 x 7) (t_mm : zk σ0 mm 20) (t_out : zk σ0 out 24) (ttx0 : zk σ0 (kR κ x 0) 6) (hdis : DIS κ x) (hlt : l.stackTraces = false) {p : Program} {e : Env} {s : State} {m : MethodId} {below : List Frame} {meth : Method} {c : Code} {L : Nat} {xs : Nat → Int32} {i : Int32} {Q9 : State → Prop} (hx : p.tables.exec = Jvm.exec) (hb : c.code = cL_law) (hml : c.maxLocals = 9) (hown : s.vm.findClass RL = some m.cls) (hg : ∀ w ∈ GW, w.before #[Value.ref b] s = true) (hK : va_K κ.1 vwCl (kTy κ) s) (hX : XY κ (tA σ0 s.heap.size) s s.heap) (hXs : va_X b L xs s s.heap) (hbl : b < s.heap.size) (hbA : ¬ tA σ0 s.heap.size b) (zx : zroomX κ s room_1 601024 7293034) (hi0 : 0 ≤ i.toInt) (hi1 : i.toInt + 6 ≤ L) (hL9 : L ≤ 3072) {σ : Gh} {H : Heap} {locs : List Loc} {ls : Array Slot} (hT : TS κ fA σ0 σ s H locs) (hR : RI κ σ mm) (hrel : LREL κ σ x mm) (hsr : SREL κ σ x mm) (hl : lv_has ls 9 [(4, .int i), (3, .ref out), (2, .ref mm), (1, .ref x), (0, .ref b)]) (KK : ∀ (σ1 : Gh) (H : Heap) (locs : List Loc) (ls : Array Slot), TS (kX κ) fA σ0 σ1 s H locs → RI (kX κ) σ1 mm → LREL κ σ1 x mm → SREL κ σ1 x mm → lv_has ls 9 [(4, .int i), (3, .ref out), (2, .ref mm), (1, .ref x), (0, .ref b)] → W p l e room_1 s m #[Value.ref b] below meth c H locs 601024 7293034 Q9 (F0 m 1404 ls [])) : W p l e room_1 s m #[Value.ref b] below meth c H locs 601024 7293034 Q9 (F0 m 321 ls []) := by
  obtain ⟨y1, hy1⟩ : ∃ z, z = xs (ix i + 1) := ⟨_, rfl⟩
  obtain ⟨y2, hy2⟩ : ∃ z, z = xs (ix i + 2) := ⟨_, rfl⟩
  obtain ⟨y3, hy3⟩ : ∃ z, z = xs (ix i + 3) := ⟨_, rfl⟩
  obtain ⟨y4, hy4⟩ : ∃ z, z = xs (ix i + 4) := ⟨_, rfl⟩
  obtain ⟨y5, hy5⟩ : ∃ z, z = xs (ix i + 5) := ⟨_, rfl⟩
  have n0 : (0 : Int32).toInt = 0 := by decide
  have n1 : (1 : Int32).toInt = 1 := by decide
  have n2 : (2 : Int32).toInt = 2 := by decide
  have n3 : (3 : Int32).toInt = 3 := by decide
  have n4 : (4 : Int32).toInt = 4 := by decide
  have n5 : (5 : Int32).toInt = 5 := by decide
  obtain ⟨tx, etx⟩ : ∃ z, kR κ x 0 = z := ⟨_, rfl⟩
  have ttx : zk σ0 tx 6 := by rw [← etx]; exact ttx0
  obtain ⟨rB, erB⟩ : ∃ z, kR κ tx 0 = z := ⟨_, rfl⟩
  have trB : zk σ0 rB 14 := by rw [← erB]; exact hT.kr (hT.ref (hT.k ttx (by decide)) (by decide) (by decide) (by decide)) (by decide) (by decide)
  obtain ⟨rT, erT⟩ : ∃ z, kR κ mm 12 = z := ⟨_, rfl⟩
  have trT : zk σ0 rT 23 := by rw [← erT]; exact hT.kr (hT.ref (hT.k t_mm (by decide)) (by decide) (by decide) (by decide)) (by decide) (by decide)
  obtain ⟨rI, erI⟩ : ∃ z, kR κ x 6 = z := ⟨_, rfl⟩
  have trI : zk σ0 rI 13 := by rw [← erI]; exact hT.kr (hT.ref (hT.k t_x (by decide)) (by decide) (by decide) (by decide)) (by decide) (by decide)
  obtain ⟨rK, erK⟩ : ∃ z, kR κ mm 4 = z := ⟨_, rfl⟩
  have trK : zk σ0 rK 29 := by rw [← erK]; exact hT.kr (hT.ref (hT.k t_mm (by decide)) (by decide) (by decide) (by decide)) (by decide) (by decide)
  obtain ⟨hlen, ⟨hal, hnn⟩, ⟨hco, hpo⟩, hkp⟩ := hrel
  rw [etx] at hlen hal hco hpo
  rw [erB, erT] at hal
  rw [erT] at hnn
  rw [erI, erK] at hkp
  have btx := (hT.P (hT.k ttx (by decide)) (by decide)).1
  have btxl := btx.1
  have btxh := btx.2
  obtain ⟨nw, enw⟩ : ∃ z, kR κ x 3 = z := ⟨_, rfl⟩
  have tnw : zk σ0 nw 3 := by rw [← enw]; exact hT.kr (hT.ref (hT.k t_x (by decide)) (by decide) (by decide) (by decide)) (by decide) (by decide)
  obtain ⟨tr, etr⟩ : ∃ z, kR κ x 4 = z := ⟨_, rfl⟩
  have ttr : zk σ0 tr 3 := by rw [← etr]; exact hT.kr (hT.ref (hT.k t_x (by decide)) (by decide) (by decide) (by decide)) (by decide) (by decide)
  obtain ⟨rs5, ers5⟩ : ∃ z, kR κ x 5 = z := ⟨_, rfl⟩
  have trs5 : zk σ0 rs5 12 := by rw [← ers5]; exact hT.kr (hT.ref (hT.k t_x (by decide)) (by decide) (by decide) (by decide)) (by decide) (by decide)
  obtain ⟨sl0, esl0⟩ : ∃ z, kR κ rs5 0 = z := ⟨_, rfl⟩
  have tsl0 : zk σ0 sl0 3 := by rw [← esl0]; exact hT.kr (hT.ref (hT.k trs5 (by decide)) (by decide) (by decide) (by decide)) (by decide) (by decide)
  obtain ⟨sl1, esl1⟩ : ∃ z, kR κ rs5 1 = z := ⟨_, rfl⟩
  have tsl1 : zk σ0 sl1 3 := by rw [← esl1]; exact hT.kr (hT.ref (hT.k trs5 (by decide)) (by decide) (by decide) (by decide)) (by decide) (by decide)
  obtain ⟨rW, erW⟩ : ∃ z, kR κ mm 1 = z := ⟨_, rfl⟩
  have trW : zk σ0 rW 21 := by rw [← erW]; exact hT.kr (hT.ref (hT.k t_mm (by decide)) (by decide) (by decide) (by decide)) (by decide) (by decide)
  obtain ⟨rS, erS⟩ : ∃ z, kR κ mm 3 = z := ⟨_, rfl⟩
  have trS : zk σ0 rS 22 := by rw [← erS]; exact hT.kr (hT.ref (hT.k t_mm (by decide)) (by decide) (by decide) (by decide)) (by decide) (by decide)
  obtain ⟨hnw, hsl⟩ := hsr
  obtain ⟨hd1, ⟨hd2, hd3⟩, hd4, hd5⟩ := hdis
  have d_nt : nw ≠ tr := by rw [← enw, ← etr]; exact hd2
  have d_n0 : nw ≠ sl0 := by rw [← enw, ← esl0, ← ers5]; exact hd3 0 (by decide)
  have d_t0 : sl0 ≠ tr := by rw [← etr, ← esl0, ← ers5]; exact fun q => hd4 0 (by decide) q.symm
  have d_n1 : nw ≠ sl1 := by rw [← enw, ← esl1, ← ers5]; exact hd3 1 (by decide)
  have d_t1 : sl1 ≠ tr := by rw [← etr, ← esl1, ← ers5]; exact fun q => hd4 1 (by decide) q.symm
  have d_01 : sl0 ≠ sl1 := by rw [← esl0, ← esl1, ← ers5]; exact hd5
  have knw : zk σ nw 3 := hT.k tnw (by decide)
  have ksl0 : zk σ sl0 3 := hT.k tsl0 (by decide)
  have ksl1 : zk σ sl1 3 := hT.k tsl1 (by decide)
  have hw7 : (zI σ nw 7).toInt = (zJ σ rW 0).toInt := by rw [← enw, ← erW]; exact hnw.1
  have hb7 := Int32.le_toInt (zI σ nw 7)
  have hc7 := Int32.toInt_lt (zI σ nw 7)
  have hw8 : (zI σ nw 8).toInt = (zJ σ rW 1).toInt := by rw [← enw, ← erW]; exact hnw.2.1
  have hb8 := Int32.le_toInt (zI σ nw 8)
  have hc8 := Int32.toInt_lt (zI σ nw 8)
  have hw9 : (zI σ nw 9).toInt = (zJ σ rW 2).toInt := by rw [← enw, ← erW]; exact hnw.2.2
  have hb9 := Int32.le_toInt (zI σ nw 9)
  have hc9 := Int32.toInt_lt (zI σ nw 9)
  refine lv_aload_n hx hb dL_law_321 rfl (lv_at hl 3 rfl) ?_
  refine lv_aload_n hx hb dL_law_322 rfl (lv_at hl 1 rfl) ?_
  have hTo := hT
  refine tHi (n := 2) (As := [.ref x, .ref out]) (rest := []) hx hb hml hown hg hT hK hX (L_load l κ σ x out (hT.k t_x (by decide)) (hT.k t_out (by decide)) (show TXc κ σ (kR κ x 0) (fun j => (zI σ rB j).toInt) (zI σ mm 13).toInt.toNat from ⟨fun j => by show (zI σ rB j).toInt = _; rw [etx, erB], by rw [etx]; omega⟩) hd1 hlt) sub_hfLd_fA (mwHS k681 k682 k83 k683) ⟨by decide, by decide, by decide +kernel⟩ ⟨(Nat.le_of_ble_eq_true rfl), (Nat.le_of_ble_eq_true rfl)⟩ rfl hl.1 rfl (Nat.le_of_ble_eq_true rfl) dL_law_323 zx (fun r2 s1 H locs hφ hE hT => ?_)
  obtain ⟨f3, f4, f5⟩ := hφ
  rw [etx] at f3
  rw [etx] at f5
  have R6 := hR.ext hE ⟨rfl, rfl, fun _ => rfl, fun _ => rfl, fun _ => rfl, fun _ => rfl⟩
  have j7 : zI s1 rB = zI σ rB := (show zI s1 rB = zI σ rB from funext fun k => (hTo.k trB (by decide)).eI hE (by decide) rfl)
  have j8 : zI s1 rT = zI σ rT := (show zI s1 rT = zI σ rT from funext fun k => (hTo.k trT (by decide)).eI hE (by decide) rfl)
  have j9 : zI s1 rK = zI σ rK := (show zI s1 rK = zI σ rK from funext fun k => (hTo.k trK (by decide)).eI hE (by decide) rfl)
  have j10 : zI s1 mm 15 = zI σ mm 15 := (hTo.k t_mm (by decide)).eI hE (by decide) rfl
  have j11 : zI s1 mm 16 = zI σ mm 16 := (hTo.k t_mm (by decide)).eI hE (by decide) rfl
  have f49 := f4
  try rw [etr] at f49
  try rw [enw] at f49
  have n12 : zI s1 sl0 7 = zI σ sl0 7 ∧ zI s1 sl0 8 = zI σ sl0 8 ∧ zI s1 sl0 9 = zI σ sl0 9 := f49 sl0 (fun q => d_n0 q.symm) (hTo.k tsl0 (by decide))
  have n13 : zI s1 sl1 7 = zI σ sl1 7 ∧ zI s1 sl1 8 = zI σ sl1 8 ∧ zI s1 sl1 9 = zI σ sl1 9 := f49 sl1 (fun q => d_n1 q.symm) (hTo.k tsl1 (by decide))
  have n14 : ∀ j : Nat, j < 3 → zJ s1 rW j = zJ σ rW j := fun j hj => (hTo.k trW (by decide)).eJ hE (by decide) rfl
  have n15 : zJ s1 rS = zJ σ rS := (show zJ s1 rS = zJ σ rS from funext fun k => (hTo.k trS (by decide)).eJ hE (by decide) rfl)
  rw [erI] at f5
  obtain ⟨x9, co, po, rds9, f5⟩ := f5
  have ar1 : (r2.toInt = 0 ∧ co = 0 ∧ (zJ s1 out 0).toInt = po ∧ (zI s1 tx 2).toInt = 0 ∧ (zI s1 tx 3).toInt = -1) ∨ (r2.toInt = 1 ∧ co ≠ 0 ∧ (zI s1 tx 2).toInt = co ∧ (zI s1 tx 3).toInt = po) := f5.elim (fun q9 => Or.inl ⟨q9.1, q9.2.1, q9.2.2.1, q9.2.2.2.1, q9.2.2.2.2.1⟩) (fun q9 => Or.inr ⟨q9.1, q9.2.1, q9.2.2.1, q9.2.2.2.1⟩)
  rw [enw] at f5
  have as1 : (co = 0 ∧ (zI s1 nw 7).toInt = x9.2.2.2.2 0 ∧ (zI s1 nw 8).toInt = x9.2.2.2.2 1 ∧ (zI s1 nw 9).toInt = x9.2.2.2.2 2) ∨ (co ≠ 0 ∧ (zI s1 nw 7).toInt = (zI σ nw 7).toInt ∧ (zI s1 nw 8).toInt = (zI σ nw 8).toInt ∧ (zI s1 nw 9).toInt = (zI σ nw 9).toInt) := f5.elim (fun q9 => Or.inl ⟨q9.2.1, q9.2.2.2.2.2.2⟩) (fun q9 => Or.inr ⟨q9.2.1, congrArg Int32.toInt q9.2.2.2.2.2.1, congrArg Int32.toInt q9.2.2.2.2.2.2.1, congrArg Int32.toInt q9.2.2.2.2.2.2.2⟩)
  have a16 : (zI s1 mm 13).toInt = (zI σ mm 13).toInt := by rw [(hTo.k t_mm (by decide)).eI hE (by decide) rfl]
  refine lv_istore (lv' := [(5, .int r2), (4, .int i), (3, .ref out), (2, .ref mm), (1, .ref x), (0, .ref b)]) hx hb dL_law_326 hl (by decide) rfl (fun ls hl => ?_)
  refine lv_aload_n hx hb dL_law_328 rfl (lv_at hl 3 rfl) ?_
  have hTo := hT
  refine tVi (n := 0) (As := []) (rest := []) hx hb hml hown hg hT hK hX (X6s_load l (kX κ) s1 mm (hT.k t_mm (by decide)) R6 (show TXm κ s1 mm (fun j => (zI σ rT j).toInt) (zI σ mm 13).toInt.toNat from ⟨fun j => by show (zI σ rT j).toInt = _; rw [erT, j8], by omega, by omega, hnn⟩)) sub_gLd_fA (mwV k1320 k1321 k1322 k92 k1323) ⟨rfl, by decide, by decide, by decide +kernel⟩ ⟨(Nat.le_of_ble_eq_true rfl), (Nat.le_of_ble_eq_true rfl)⟩ (hT.o20 (hT.k t_mm (by decide))) rfl rfl hl.1 rfl (Nat.le_of_ble_eq_true rfl) dL_law_329 zx (fun r18 s17 H locs hφ hE hT => ?_)
  obtain ⟨f19, f20, f21⟩ := hφ
  have a22 : (zI s17 tx 1).toInt = (zI s1 tx 1).toInt := by rw [(hTo.k ttx (by decide)).eI hE (by decide) rfl]
  have j23 : zI s17 rB = zI σ rB := ((show zI s17 rB = zI s1 rB from funext fun k => (hTo.k trB (by decide)).eI hE (by decide) rfl)).trans j7
  have j24 : zI s17 rT = zI σ rT := ((show zI s17 rT = zI s1 rT from funext fun k => (hTo.k trT (by decide)).eI hE (by decide) rfl)).trans j8
  have j25 : zI s17 rI = zI s1 rI := (show zI s17 rI = zI s1 rI from funext fun k => (hTo.k trI (by decide)).eI hE (by decide) rfl)
  have j26 : zI s17 tx 2 = zI s1 tx 2 := (hTo.k ttx (by decide)).eI hE (by decide) rfl
  have j27 : zI s17 tx 3 = zI s1 tx 3 := (hTo.k ttx (by decide)).eI hE (by decide) rfl
  have n28 : zI s17 nw 7 = zI s1 nw 7 ∧ zI s17 nw 8 = zI s1 nw 8 ∧ zI s17 nw 9 = zI s1 nw 9 := ⟨(hTo.k tnw (by decide)).eI hE (by decide) rfl, (hTo.k tnw (by decide)).eI hE (by decide) rfl, (hTo.k tnw (by decide)).eI hE (by decide) rfl⟩
  have n29 : zI s17 sl0 7 = zI s1 sl0 7 ∧ zI s17 sl0 8 = zI s1 sl0 8 ∧ zI s17 sl0 9 = zI s1 sl0 9 := ⟨(hTo.k tsl0 (by decide)).eI hE (by decide) rfl, (hTo.k tsl0 (by decide)).eI hE (by decide) rfl, (hTo.k tsl0 (by decide)).eI hE (by decide) rfl⟩
  have n30 : zI s17 sl0 7 = zI σ sl0 7 ∧ zI s17 sl0 8 = zI σ sl0 8 ∧ zI s17 sl0 9 = zI σ sl0 9 := ⟨n29.1.trans n12.1, n29.2.1.trans n12.2.1, n29.2.2.trans n12.2.2⟩
  have n31 : zI s17 sl1 7 = zI s1 sl1 7 ∧ zI s17 sl1 8 = zI s1 sl1 8 ∧ zI s17 sl1 9 = zI s1 sl1 9 := ⟨(hTo.k tsl1 (by decide)).eI hE (by decide) rfl, (hTo.k tsl1 (by decide)).eI hE (by decide) rfl, (hTo.k tsl1 (by decide)).eI hE (by decide) rfl⟩
  have n32 : zI s17 sl1 7 = zI σ sl1 7 ∧ zI s17 sl1 8 = zI σ sl1 8 ∧ zI s17 sl1 9 = zI σ sl1 9 := ⟨n31.1.trans n13.1, n31.2.1.trans n13.2.1, n31.2.2.trans n13.2.2⟩
  have n33 : zJ s17 rS = zJ σ rS := (show zJ s17 rS = zJ s1 rS from funext fun k => (hTo.k trS (by decide)).eJ hE (by decide) rfl).trans n15
  rw [show kR (kX κ) mm 4 = rK from erK] at f21
  obtain ⟨y9, co2, po2, rds8, f21⟩ := f21
  obtain ⟨rfl, rfl, rfl⟩ := uRds_one hal rds9 rds8
  have ar2 : ((zI s17 mm 0).toInt = 0 ∧ co = 0 ∧ r18.toInt = po ∧ (zI s17 mm 15).toInt = 0 ∧ (zI s17 mm 16).toInt = -1) ∨ ((zI s17 mm 0).toInt = 1 ∧ co ≠ 0 ∧ (zI s17 mm 15).toInt = co ∧ (zI s17 mm 16).toInt = po) := f21.elim (fun q9 => Or.inl ⟨q9.1, q9.2.1, q9.2.2.1, q9.2.2.2.1, q9.2.2.2.2.1⟩) (fun q9 => Or.inr ⟨q9.1, q9.2.1, q9.2.2.1, q9.2.2.2.1⟩)
  rw [show kR (kX κ) mm 1 = rW from erW] at f21
  have as2 : (co = 0 ∧ (zJ s17 rW 0).toInt = x9.2.2.2.2 0 ∧ (zJ s17 rW 1).toInt = x9.2.2.2.2 1 ∧ (zJ s17 rW 2).toInt = x9.2.2.2.2 2) ∨ (co ≠ 0 ∧ (zJ s17 rW 0).toInt = (zJ σ rW 0).toInt ∧ (zJ s17 rW 1).toInt = (zJ σ rW 1).toInt ∧ (zJ s17 rW 2).toInt = (zJ σ rW 2).toInt) := f21.elim (fun q9 => Or.inl ⟨q9.2.1, q9.2.2.2.2.2.2.2⟩) (fun q9 => Or.inr ⟨q9.2.1, congrArg Int64.toInt ((q9.2.2.2.2.2 0 (by decide)).trans (n14 0 (by decide))), congrArg Int64.toInt ((q9.2.2.2.2.2 1 (by decide)).trans (n14 1 (by decide))), congrArg Int64.toInt ((q9.2.2.2.2.2 2 (by decide)).trans (n14 2 (by decide)))⟩)
  refine lv_istore (lv' := [(6, .int r18), (5, .int r2), (4, .int i), (3, .ref out), (2, .ref mm), (1, .ref x), (0, .ref b)]) hx hb dL_law_332 hl (by decide) rfl (fun ls hl => ?_)
  refine lv_goto (tgt := 1404) hx hb dL_law_334 (by decide) ?_
  have sl0f : zI s17 rI 0 ≠ 0 → SLT κ s17 x mm 0 := fun hq => f5.elim (fun c9 => absurd (by first | exact c9.2.2.2.2.2.1 0 (by decide) | (rw [j25]; exact c9.2.2.2.2.2.1 0 (by decide))) hq) (fun c9 => (hsl 0 (by decide) (fun q9 => hq (by rw [erI] at q9; rw [j25, c9.2.2.2.2.1]; exact q9))).tr (by rw [ers5, esl0]; exact n30) (fun j hj => by rw [erS, n33]))
  have sl1f : zI s17 rI 1 ≠ 0 → SLT κ s17 x mm 1 := fun hq => f5.elim (fun c9 => absurd (by first | exact c9.2.2.2.2.2.1 1 (by decide) | (rw [j25]; exact c9.2.2.2.2.2.1 1 (by decide))) hq) (fun c9 => (hsl 1 (by decide) (fun q9 => hq (by rw [erI] at q9; rw [j25, c9.2.2.2.2.1]; exact q9))).tr (by rw [ers5, esl1]; exact n32) (fun j hj => by rw [erS, n33]))
  have v7 := congrArg Int32.toInt n28.1
  have v8 := congrArg Int32.toInt n28.2.1
  have v9 := congrArg Int32.toInt n28.2.2
  exact KK s17 _ _ _ hT f19 ⟨by rw [etx]; omega, ⟨by rw [etx, erB, erT, j23, j24]; exact tal_less hal (by omega), by rw [erT, j24]; exact tnn_less hnn (by omega)⟩, ⟨by rw [etx, j26]; omega, by rw [etx, j27]; omega⟩, fun i hi => by rw [erI, erK, j25]; exact f5.elim (fun c9 => f21.elim (fun m9 => (c9.2.2.2.2.2.1 i hi).trans (by rcases (show i = 0 ∨ i = 1 by omega) with rfl | rfl; exact m9.2.2.2.2.2.1.symm; exact m9.2.2.2.2.2.2.1.symm)) (fun m9 => absurd c9.2.1 m9.2.1)) (fun c9 => f21.elim (fun m9 => absurd m9.2.1 c9.2.1) (fun m9 => by rw [c9.2.2.2.2.1, m9.2.2.2.2.1, j9]; exact hkp i hi))⟩ (⟨⟨by rw [enw, erW]; omega, by rw [enw, erW]; omega, by rw [enw, erW]; omega⟩, fun i hi => (show i = 0 ∨ i = 1 by omega).elim (fun e9 => by rw [e9, erI]; exact sl0f) (fun e9 => by rw [e9, erI]; exact sl1f)⟩) (lv_sub hl [2, 3, 4, 5, 6] rfl)
set_option maxHeartbeats 4000000 in
set_option maxRecDepth 100000 in
theorem lc_3 (l : Launch) (κ : Kt) (σ0 : Gh) (x mm out b : Nat) (t_x : zk σ0 x 7) (t_mm : zk σ0 mm 20) (t_out : zk σ0 out 24) (ttx0 : zk σ0 (kR κ x 0) 6) (hdis : DIS κ x) (hlt : l.stackTraces = false) {p : Program} {e : Env} {s : State} {m : MethodId} {below : List Frame} {meth : Method} {c : Code} {L : Nat} {xs : Nat → Int32} {i : Int32} {Q9 : State → Prop} (hx : p.tables.exec = Jvm.exec) (hb : c.code = cL_law) (hml : c.maxLocals = 9) (hown : s.vm.findClass RL = some m.cls) (hg : ∀ w ∈ GW, w.before #[Value.ref b] s = true) (hK : va_K κ.1 vwCl (kTy κ) s) (hX : XY κ (tA σ0 s.heap.size) s s.heap) (hXs : va_X b L xs s s.heap) (hbl : b < s.heap.size) (hbA : ¬ tA σ0 s.heap.size b) (zx : zroomX κ s room_1 601024 7293034) (hi0 : 0 ≤ i.toInt) (hi1 : i.toInt + 6 ≤ L) (hL9 : L ≤ 3072) {σ : Gh} {H : Heap} {locs : List Loc} {ls : Array Slot} (hT : TS κ fA σ0 σ s H locs) (hR : RI κ σ mm) (hrel : LREL κ σ x mm) (hsr : SREL κ σ x mm) (hl : lv_has ls 9 [(4, .int i), (3, .ref out), (2, .ref mm), (1, .ref x), (0, .ref b)]) (KK : ∀ (σ1 : Gh) (H : Heap) (locs : List Loc) (ls : Array Slot), TS (kX κ) fA σ0 σ1 s H locs → RI (kX κ) σ1 mm → LREL κ σ1 x mm → SREL κ σ1 x mm → lv_has ls 9 [(4, .int i), (3, .ref out), (2, .ref mm), (1, .ref x), (0, .ref b)] → W p l e room_1 s m #[Value.ref b] below meth c H locs 601024 7293034 Q9 (F0 m 1404 ls [])) : W p l e room_1 s m #[Value.ref b] below meth c H locs 601024 7293034 Q9 (F0 m 337 ls []) := by
  obtain ⟨y1, hy1⟩ : ∃ z, z = xs (ix i + 1) := ⟨_, rfl⟩
  obtain ⟨y2, hy2⟩ : ∃ z, z = xs (ix i + 2) := ⟨_, rfl⟩
  obtain ⟨y3, hy3⟩ : ∃ z, z = xs (ix i + 3) := ⟨_, rfl⟩
  obtain ⟨y4, hy4⟩ : ∃ z, z = xs (ix i + 4) := ⟨_, rfl⟩
  obtain ⟨y5, hy5⟩ : ∃ z, z = xs (ix i + 5) := ⟨_, rfl⟩
  have n0 : (0 : Int32).toInt = 0 := by decide
  have n1 : (1 : Int32).toInt = 1 := by decide
  have n2 : (2 : Int32).toInt = 2 := by decide
  have n3 : (3 : Int32).toInt = 3 := by decide
  have n4 : (4 : Int32).toInt = 4 := by decide
  have n5 : (5 : Int32).toInt = 5 := by decide
  obtain ⟨tx, etx⟩ : ∃ z, kR κ x 0 = z := ⟨_, rfl⟩
  have ttx : zk σ0 tx 6 := by rw [← etx]; exact ttx0
  obtain ⟨rB, erB⟩ : ∃ z, kR κ tx 0 = z := ⟨_, rfl⟩
  have trB : zk σ0 rB 14 := by rw [← erB]; exact hT.kr (hT.ref (hT.k ttx (by decide)) (by decide) (by decide) (by decide)) (by decide) (by decide)
  obtain ⟨rT, erT⟩ : ∃ z, kR κ mm 12 = z := ⟨_, rfl⟩
  have trT : zk σ0 rT 23 := by rw [← erT]; exact hT.kr (hT.ref (hT.k t_mm (by decide)) (by decide) (by decide) (by decide)) (by decide) (by decide)
  obtain ⟨rI, erI⟩ : ∃ z, kR κ x 6 = z := ⟨_, rfl⟩
  have trI : zk σ0 rI 13 := by rw [← erI]; exact hT.kr (hT.ref (hT.k t_x (by decide)) (by decide) (by decide) (by decide)) (by decide) (by decide)
  obtain ⟨rK, erK⟩ : ∃ z, kR κ mm 4 = z := ⟨_, rfl⟩
  have trK : zk σ0 rK 29 := by rw [← erK]; exact hT.kr (hT.ref (hT.k t_mm (by decide)) (by decide) (by decide) (by decide)) (by decide) (by decide)
  obtain ⟨hlen, ⟨hal, hnn⟩, ⟨hco, hpo⟩, hkp⟩ := hrel
  rw [etx] at hlen hal hco hpo
  rw [erB, erT] at hal
  rw [erT] at hnn
  rw [erI, erK] at hkp
  have btx := (hT.P (hT.k ttx (by decide)) (by decide)).1
  have btxl := btx.1
  have btxh := btx.2
  obtain ⟨nw, enw⟩ : ∃ z, kR κ x 3 = z := ⟨_, rfl⟩
  have tnw : zk σ0 nw 3 := by rw [← enw]; exact hT.kr (hT.ref (hT.k t_x (by decide)) (by decide) (by decide) (by decide)) (by decide) (by decide)
  obtain ⟨tr, etr⟩ : ∃ z, kR κ x 4 = z := ⟨_, rfl⟩
  have ttr : zk σ0 tr 3 := by rw [← etr]; exact hT.kr (hT.ref (hT.k t_x (by decide)) (by decide) (by decide) (by decide)) (by decide) (by decide)
  obtain ⟨rs5, ers5⟩ : ∃ z, kR κ x 5 = z := ⟨_, rfl⟩
  have trs5 : zk σ0 rs5 12 := by rw [← ers5]; exact hT.kr (hT.ref (hT.k t_x (by decide)) (by decide) (by decide) (by decide)) (by decide) (by decide)
  obtain ⟨sl0, esl0⟩ : ∃ z, kR κ rs5 0 = z := ⟨_, rfl⟩
  have tsl0 : zk σ0 sl0 3 := by rw [← esl0]; exact hT.kr (hT.ref (hT.k trs5 (by decide)) (by decide) (by decide) (by decide)) (by decide) (by decide)
  obtain ⟨sl1, esl1⟩ : ∃ z, kR κ rs5 1 = z := ⟨_, rfl⟩
  have tsl1 : zk σ0 sl1 3 := by rw [← esl1]; exact hT.kr (hT.ref (hT.k trs5 (by decide)) (by decide) (by decide) (by decide)) (by decide) (by decide)
  obtain ⟨rW, erW⟩ : ∃ z, kR κ mm 1 = z := ⟨_, rfl⟩
  have trW : zk σ0 rW 21 := by rw [← erW]; exact hT.kr (hT.ref (hT.k t_mm (by decide)) (by decide) (by decide) (by decide)) (by decide) (by decide)
  obtain ⟨rS, erS⟩ : ∃ z, kR κ mm 3 = z := ⟨_, rfl⟩
  have trS : zk σ0 rS 22 := by rw [← erS]; exact hT.kr (hT.ref (hT.k t_mm (by decide)) (by decide) (by decide) (by decide)) (by decide) (by decide)
  obtain ⟨hnw, hsl⟩ := hsr
  obtain ⟨hd1, ⟨hd2, hd3⟩, hd4, hd5⟩ := hdis
  have d_nt : nw ≠ tr := by rw [← enw, ← etr]; exact hd2
  have d_n0 : nw ≠ sl0 := by rw [← enw, ← esl0, ← ers5]; exact hd3 0 (by decide)
  have d_t0 : sl0 ≠ tr := by rw [← etr, ← esl0, ← ers5]; exact fun q => hd4 0 (by decide) q.symm
  have d_n1 : nw ≠ sl1 := by rw [← enw, ← esl1, ← ers5]; exact hd3 1 (by decide)
  have d_t1 : sl1 ≠ tr := by rw [← etr, ← esl1, ← ers5]; exact fun q => hd4 1 (by decide) q.symm
  have d_01 : sl0 ≠ sl1 := by rw [← esl0, ← esl1, ← ers5]; exact hd5
  have knw : zk σ nw 3 := hT.k tnw (by decide)
  have ksl0 : zk σ sl0 3 := hT.k tsl0 (by decide)
  have ksl1 : zk σ sl1 3 := hT.k tsl1 (by decide)
  refine lv_aload_n hx hb dL_law_337 rfl (lv_at hl 3 rfl) ?_
  have hTo := hT
  refine tVi (n := 0) (As := []) (rest := []) hx hb hml hown hg hT hK hX (X5s_errorCode l κ σ x (hT.k t_x (by decide))) sub_fE_fA (mwV k423 k424 k425 k84 k426) ⟨rfl, by decide, by decide, by decide +kernel⟩ ⟨(Nat.le_of_ble_eq_true rfl), (Nat.le_of_ble_eq_true rfl)⟩ (hT.o7 (hT.k t_x (by decide))) rfl rfl hl.1 rfl (Nat.le_of_ble_eq_true rfl) dL_law_338 zx.dn (fun r2 s1 H locs hφ hE hT => ?_)
  have f3 := hφ
  rw [etx] at f3
  have R4 := hR.ext hE ⟨rfl, rfl, fun _ => rfl, fun _ => rfl, fun _ => rfl, fun _ => rfl⟩
  have a5 : (zI s1 tx 1).toInt = (zI σ tx 1).toInt := by rw [(hTo.k ttx (by decide)).eI hE (by decide) rfl]
  have j6 : zI s1 rB = zI σ rB := (show zI s1 rB = zI σ rB from funext fun k => (hTo.k trB (by decide)).eI hE (by decide) rfl)
  have j7 : zI s1 rT = zI σ rT := (show zI s1 rT = zI σ rT from funext fun k => (hTo.k trT (by decide)).eI hE (by decide) rfl)
  have j8 : zI s1 rI = zI σ rI := (show zI s1 rI = zI σ rI from funext fun k => (hTo.k trI (by decide)).eI hE (by decide) rfl)
  have j9 : zI s1 rK = zI σ rK := (show zI s1 rK = zI σ rK from funext fun k => (hTo.k trK (by decide)).eI hE (by decide) rfl)
  have j10 : zI s1 tx 2 = zI σ tx 2 := (hTo.k ttx (by decide)).eI hE (by decide) rfl
  have j11 : zI s1 tx 3 = zI σ tx 3 := (hTo.k ttx (by decide)).eI hE (by decide) rfl
  have j12 : zI s1 mm 15 = zI σ mm 15 := (hTo.k t_mm (by decide)).eI hE (by decide) rfl
  have j13 : zI s1 mm 16 = zI σ mm 16 := (hTo.k t_mm (by decide)).eI hE (by decide) rfl
  have n14 : zI s1 nw 7 = zI σ nw 7 ∧ zI s1 nw 8 = zI σ nw 8 ∧ zI s1 nw 9 = zI σ nw 9 := ⟨(hTo.k tnw (by decide)).eI hE (by decide) rfl, (hTo.k tnw (by decide)).eI hE (by decide) rfl, (hTo.k tnw (by decide)).eI hE (by decide) rfl⟩
  have n15 : zI s1 sl0 7 = zI σ sl0 7 ∧ zI s1 sl0 8 = zI σ sl0 8 ∧ zI s1 sl0 9 = zI σ sl0 9 := ⟨(hTo.k tsl0 (by decide)).eI hE (by decide) rfl, (hTo.k tsl0 (by decide)).eI hE (by decide) rfl, (hTo.k tsl0 (by decide)).eI hE (by decide) rfl⟩
  have n16 : zI s1 sl1 7 = zI σ sl1 7 ∧ zI s1 sl1 8 = zI σ sl1 8 ∧ zI s1 sl1 9 = zI σ sl1 9 := ⟨(hTo.k tsl1 (by decide)).eI hE (by decide) rfl, (hTo.k tsl1 (by decide)).eI hE (by decide) rfl, (hTo.k tsl1 (by decide)).eI hE (by decide) rfl⟩
  have n17 : ∀ j : Nat, j < 3 → zJ s1 rW j = zJ σ rW j := fun j hj => (hTo.k trW (by decide)).eJ hE (by decide) rfl
  have n18 : zJ s1 rS = zJ σ rS := (show zJ s1 rS = zJ σ rS from funext fun k => (hTo.k trS (by decide)).eJ hE (by decide) rfl)
  have g19 : r2.toInt = (zI σ tx 2).toInt := by rw [f3]
  have a20 : (zI s1 mm 13).toInt = (zI σ mm 13).toInt := by rw [(hTo.k t_mm (by decide)).eI hE (by decide) rfl]
  refine lv_pop hx hb dL_law_341 rfl ?_
  refine lv_aload_n hx hb dL_law_342 rfl (lv_at hl 2 rfl) ?_
  have hTo := hT
  refine tVi (n := 0) (As := []) (rest := []) hx hb hml hown hg hT hK hX (X6s_errorCode l κ s1 mm (hT.k t_mm (by decide)) R4) sub_gR_fA (mwV k1395 k1396 k1397 k92 k1398) ⟨rfl, by decide, by decide, by decide +kernel⟩ ⟨(Nat.le_of_ble_eq_true rfl), (Nat.le_of_ble_eq_true rfl)⟩ (hT.o20 (hT.k t_mm (by decide))) rfl rfl hl.1 rfl (Nat.le_of_ble_eq_true rfl) dL_law_343 zx.dn (fun r22 s21 H locs hφ hE hT => ?_)
  have f23 := hφ
  have R24 := R4.ext hE ⟨rfl, rfl, fun _ => rfl, fun _ => rfl, fun _ => rfl, fun _ => rfl⟩
  have a25 : (zI s21 tx 1).toInt = (zI s1 tx 1).toInt := by rw [(hTo.k ttx (by decide)).eI hE (by decide) rfl]
  have j26 : zI s21 rB = zI σ rB := ((show zI s21 rB = zI s1 rB from funext fun k => (hTo.k trB (by decide)).eI hE (by decide) rfl)).trans j6
  have j27 : zI s21 rT = zI σ rT := ((show zI s21 rT = zI s1 rT from funext fun k => (hTo.k trT (by decide)).eI hE (by decide) rfl)).trans j7
  have j28 : zI s21 rI = zI σ rI := ((show zI s21 rI = zI s1 rI from funext fun k => (hTo.k trI (by decide)).eI hE (by decide) rfl)).trans j8
  have j29 : zI s21 rK = zI σ rK := ((show zI s21 rK = zI s1 rK from funext fun k => (hTo.k trK (by decide)).eI hE (by decide) rfl)).trans j9
  have j30 : zI s21 tx 2 = zI σ tx 2 := ((hTo.k ttx (by decide)).eI hE (by decide) rfl).trans j10
  have j31 : zI s21 tx 3 = zI σ tx 3 := ((hTo.k ttx (by decide)).eI hE (by decide) rfl).trans j11
  have j32 : zI s21 mm 15 = zI σ mm 15 := ((hTo.k t_mm (by decide)).eI hE (by decide) rfl).trans j12
  have j33 : zI s21 mm 16 = zI σ mm 16 := ((hTo.k t_mm (by decide)).eI hE (by decide) rfl).trans j13
  have n34 : zI s21 nw 7 = zI s1 nw 7 ∧ zI s21 nw 8 = zI s1 nw 8 ∧ zI s21 nw 9 = zI s1 nw 9 := ⟨(hTo.k tnw (by decide)).eI hE (by decide) rfl, (hTo.k tnw (by decide)).eI hE (by decide) rfl, (hTo.k tnw (by decide)).eI hE (by decide) rfl⟩
  have n35 : zI s21 nw 7 = zI σ nw 7 ∧ zI s21 nw 8 = zI σ nw 8 ∧ zI s21 nw 9 = zI σ nw 9 := ⟨n34.1.trans n14.1, n34.2.1.trans n14.2.1, n34.2.2.trans n14.2.2⟩
  have n36 : zI s21 sl0 7 = zI s1 sl0 7 ∧ zI s21 sl0 8 = zI s1 sl0 8 ∧ zI s21 sl0 9 = zI s1 sl0 9 := ⟨(hTo.k tsl0 (by decide)).eI hE (by decide) rfl, (hTo.k tsl0 (by decide)).eI hE (by decide) rfl, (hTo.k tsl0 (by decide)).eI hE (by decide) rfl⟩
  have n37 : zI s21 sl0 7 = zI σ sl0 7 ∧ zI s21 sl0 8 = zI σ sl0 8 ∧ zI s21 sl0 9 = zI σ sl0 9 := ⟨n36.1.trans n15.1, n36.2.1.trans n15.2.1, n36.2.2.trans n15.2.2⟩
  have n38 : zI s21 sl1 7 = zI s1 sl1 7 ∧ zI s21 sl1 8 = zI s1 sl1 8 ∧ zI s21 sl1 9 = zI s1 sl1 9 := ⟨(hTo.k tsl1 (by decide)).eI hE (by decide) rfl, (hTo.k tsl1 (by decide)).eI hE (by decide) rfl, (hTo.k tsl1 (by decide)).eI hE (by decide) rfl⟩
  have n39 : zI s21 sl1 7 = zI σ sl1 7 ∧ zI s21 sl1 8 = zI σ sl1 8 ∧ zI s21 sl1 9 = zI σ sl1 9 := ⟨n38.1.trans n16.1, n38.2.1.trans n16.2.1, n38.2.2.trans n16.2.2⟩
  have n40 : ∀ j : Nat, j < 3 → zJ s21 rW j = zJ s1 rW j := fun j hj => (hTo.k trW (by decide)).eJ hE (by decide) rfl
  have n41 : ∀ j : Nat, j < 3 → zJ s21 rW j = zJ σ rW j := fun j hj => (n40 j hj).trans (n17 j hj)
  have n42 : zJ s21 rS = zJ σ rS := (show zJ s21 rS = zJ s1 rS from funext fun k => (hTo.k trS (by decide)).eJ hE (by decide) rfl).trans n18
  have g43 : r22.toInt = (zI σ mm 15).toInt := by rw [f23, j12]
  have a44 : (zI s21 mm 13).toInt = (zI s1 mm 13).toInt := by rw [(hTo.k t_mm (by decide)).eI hE (by decide) rfl]
  refine lv_pop hx hb dL_law_346 rfl ?_
  refine lv_goto (tgt := 1404) hx hb dL_law_347 (by decide) ?_
  have sl0f : zI s21 rI 0 ≠ 0 → SLT κ s21 x mm 0 := fun hq => (hsl 0 (by decide) (fun q9 => hq (by rw [erI] at q9; rw [j28]; exact q9))).tr (by rw [ers5, esl0]; exact n37) (fun j hj => by rw [erS, n42])
  have sl1f : zI s21 rI 1 ≠ 0 → SLT κ s21 x mm 1 := fun hq => (hsl 1 (by decide) (fun q9 => hq (by rw [erI] at q9; rw [j28]; exact q9))).tr (by rw [ers5, esl1]; exact n39) (fun j hj => by rw [erS, n42])
  exact KK s21 _ _ _ hT.up R24 ⟨by rw [etx]; omega, ⟨by rw [etx, erB, erT, j26, j27]; exact tal_less hal (by omega), by rw [erT, j27]; exact tnn_less hnn (by omega)⟩, ⟨by rw [etx, j30, j32]; exact hco, by rw [etx, j31, j33]; exact hpo⟩, fun i hi => by rw [erI, erK, j28, j29]; exact hkp i hi⟩ (⟨hnw.tr (by rw [enw]; exact n35) (by rw [erW]; exact n41), fun i hi => (show i = 0 ∨ i = 1 by omega).elim (fun e9 => by rw [e9, erI]; exact sl0f) (fun e9 => by rw [e9, erI]; exact sl1f)⟩) (lv_sub hl [0, 1, 2, 3, 4] rfl)
set_option maxHeartbeats 4000000 in
set_option maxRecDepth 100000 in
theorem lc_4 (l : Launch) (κ : Kt) (σ0 : Gh) (x mm out b : Nat) (t_x : zk σ0 x 7) (t_mm : zk σ0 mm 20) (t_out : zk σ0 out 24) (ttx0 : zk σ0 (kR κ x 0) 6) (hdis : DIS κ x) (hlt : l.stackTraces = false) {p : Program} {e : Env} {s : State} {m : MethodId} {below : List Frame} {meth : Method} {c : Code} {L : Nat} {xs : Nat → Int32} {i : Int32} {Q9 : State → Prop} (hx : p.tables.exec = Jvm.exec) (hb : c.code = cL_law) (hml : c.maxLocals = 9) (hown : s.vm.findClass RL = some m.cls) (hg : ∀ w ∈ GW, w.before #[Value.ref b] s = true) (hK : va_K κ.1 vwCl (kTy κ) s) (hX : XY κ (tA σ0 s.heap.size) s s.heap) (hXs : va_X b L xs s s.heap) (hbl : b < s.heap.size) (hbA : ¬ tA σ0 s.heap.size b) (zx : zroomX κ s room_1 601024 7293034) (hi0 : 0 ≤ i.toInt) (hi1 : i.toInt + 6 ≤ L) (hL9 : L ≤ 3072) {σ : Gh} {H : Heap} {locs : List Loc} {ls : Array Slot} (hT : TS κ fA σ0 σ s H locs) (hR : RI κ σ mm) (hrel : LREL κ σ x mm) (hsr : SREL κ σ x mm) (hl : lv_has ls 9 [(4, .int i), (3, .ref out), (2, .ref mm), (1, .ref x), (0, .ref b)]) (KK : ∀ (σ1 : Gh) (H : Heap) (locs : List Loc) (ls : Array Slot), TS (kX κ) fA σ0 σ1 s H locs → RI (kX κ) σ1 mm → LREL κ σ1 x mm → SREL κ σ1 x mm → lv_has ls 9 [(4, .int i), (3, .ref out), (2, .ref mm), (1, .ref x), (0, .ref b)] → W p l e room_1 s m #[Value.ref b] below meth c H locs 601024 7293034 Q9 (F0 m 1404 ls [])) : W p l e room_1 s m #[Value.ref b] below meth c H locs 601024 7293034 Q9 (F0 m 350 ls []) := by
  obtain ⟨y1, hy1⟩ : ∃ z, z = xs (ix i + 1) := ⟨_, rfl⟩
  obtain ⟨y2, hy2⟩ : ∃ z, z = xs (ix i + 2) := ⟨_, rfl⟩
  obtain ⟨y3, hy3⟩ : ∃ z, z = xs (ix i + 3) := ⟨_, rfl⟩
  obtain ⟨y4, hy4⟩ : ∃ z, z = xs (ix i + 4) := ⟨_, rfl⟩
  obtain ⟨y5, hy5⟩ : ∃ z, z = xs (ix i + 5) := ⟨_, rfl⟩
  have n0 : (0 : Int32).toInt = 0 := by decide
  have n1 : (1 : Int32).toInt = 1 := by decide
  have n2 : (2 : Int32).toInt = 2 := by decide
  have n3 : (3 : Int32).toInt = 3 := by decide
  have n4 : (4 : Int32).toInt = 4 := by decide
  have n5 : (5 : Int32).toInt = 5 := by decide
  obtain ⟨tx, etx⟩ : ∃ z, kR κ x 0 = z := ⟨_, rfl⟩
  have ttx : zk σ0 tx 6 := by rw [← etx]; exact ttx0
  obtain ⟨rB, erB⟩ : ∃ z, kR κ tx 0 = z := ⟨_, rfl⟩
  have trB : zk σ0 rB 14 := by rw [← erB]; exact hT.kr (hT.ref (hT.k ttx (by decide)) (by decide) (by decide) (by decide)) (by decide) (by decide)
  obtain ⟨rT, erT⟩ : ∃ z, kR κ mm 12 = z := ⟨_, rfl⟩
  have trT : zk σ0 rT 23 := by rw [← erT]; exact hT.kr (hT.ref (hT.k t_mm (by decide)) (by decide) (by decide) (by decide)) (by decide) (by decide)
  obtain ⟨rI, erI⟩ : ∃ z, kR κ x 6 = z := ⟨_, rfl⟩
  have trI : zk σ0 rI 13 := by rw [← erI]; exact hT.kr (hT.ref (hT.k t_x (by decide)) (by decide) (by decide) (by decide)) (by decide) (by decide)
  obtain ⟨rK, erK⟩ : ∃ z, kR κ mm 4 = z := ⟨_, rfl⟩
  have trK : zk σ0 rK 29 := by rw [← erK]; exact hT.kr (hT.ref (hT.k t_mm (by decide)) (by decide) (by decide) (by decide)) (by decide) (by decide)
  obtain ⟨hlen, ⟨hal, hnn⟩, ⟨hco, hpo⟩, hkp⟩ := hrel
  rw [etx] at hlen hal hco hpo
  rw [erB, erT] at hal
  rw [erT] at hnn
  rw [erI, erK] at hkp
  have btx := (hT.P (hT.k ttx (by decide)) (by decide)).1
  have btxl := btx.1
  have btxh := btx.2
  obtain ⟨nw, enw⟩ : ∃ z, kR κ x 3 = z := ⟨_, rfl⟩
  have tnw : zk σ0 nw 3 := by rw [← enw]; exact hT.kr (hT.ref (hT.k t_x (by decide)) (by decide) (by decide) (by decide)) (by decide) (by decide)
  obtain ⟨tr, etr⟩ : ∃ z, kR κ x 4 = z := ⟨_, rfl⟩
  have ttr : zk σ0 tr 3 := by rw [← etr]; exact hT.kr (hT.ref (hT.k t_x (by decide)) (by decide) (by decide) (by decide)) (by decide) (by decide)
  obtain ⟨rs5, ers5⟩ : ∃ z, kR κ x 5 = z := ⟨_, rfl⟩
  have trs5 : zk σ0 rs5 12 := by rw [← ers5]; exact hT.kr (hT.ref (hT.k t_x (by decide)) (by decide) (by decide) (by decide)) (by decide) (by decide)
  obtain ⟨sl0, esl0⟩ : ∃ z, kR κ rs5 0 = z := ⟨_, rfl⟩
  have tsl0 : zk σ0 sl0 3 := by rw [← esl0]; exact hT.kr (hT.ref (hT.k trs5 (by decide)) (by decide) (by decide) (by decide)) (by decide) (by decide)
  obtain ⟨sl1, esl1⟩ : ∃ z, kR κ rs5 1 = z := ⟨_, rfl⟩
  have tsl1 : zk σ0 sl1 3 := by rw [← esl1]; exact hT.kr (hT.ref (hT.k trs5 (by decide)) (by decide) (by decide) (by decide)) (by decide) (by decide)
  obtain ⟨rW, erW⟩ : ∃ z, kR κ mm 1 = z := ⟨_, rfl⟩
  have trW : zk σ0 rW 21 := by rw [← erW]; exact hT.kr (hT.ref (hT.k t_mm (by decide)) (by decide) (by decide) (by decide)) (by decide) (by decide)
  obtain ⟨rS, erS⟩ : ∃ z, kR κ mm 3 = z := ⟨_, rfl⟩
  have trS : zk σ0 rS 22 := by rw [← erS]; exact hT.kr (hT.ref (hT.k t_mm (by decide)) (by decide) (by decide) (by decide)) (by decide) (by decide)
  obtain ⟨hnw, hsl⟩ := hsr
  obtain ⟨hd1, ⟨hd2, hd3⟩, hd4, hd5⟩ := hdis
  have d_nt : nw ≠ tr := by rw [← enw, ← etr]; exact hd2
  have d_n0 : nw ≠ sl0 := by rw [← enw, ← esl0, ← ers5]; exact hd3 0 (by decide)
  have d_t0 : sl0 ≠ tr := by rw [← etr, ← esl0, ← ers5]; exact fun q => hd4 0 (by decide) q.symm
  have d_n1 : nw ≠ sl1 := by rw [← enw, ← esl1, ← ers5]; exact hd3 1 (by decide)
  have d_t1 : sl1 ≠ tr := by rw [← etr, ← esl1, ← ers5]; exact fun q => hd4 1 (by decide) q.symm
  have d_01 : sl0 ≠ sl1 := by rw [← esl0, ← esl1, ← ers5]; exact hd5
  have knw : zk σ nw 3 := hT.k tnw (by decide)
  have ksl0 : zk σ sl0 3 := hT.k tsl0 (by decide)
  have ksl1 : zk σ sl1 3 := hT.k tsl1 (by decide)
  refine lv_aload_n hx hb dL_law_350 rfl (lv_at hl 3 rfl) ?_
  have hTo := hT
  refine tVi (n := 0) (As := []) (rest := []) hx hb hml hown hg hT hK hX (X5s_errorPosition l κ σ x (hT.k t_x (by decide))) sub_fE_fA (mwV k427 k428 k429 k84 k430) ⟨rfl, by decide, by decide, by decide +kernel⟩ ⟨(Nat.le_of_ble_eq_true rfl), (Nat.le_of_ble_eq_true rfl)⟩ (hT.o7 (hT.k t_x (by decide))) rfl rfl hl.1 rfl (Nat.le_of_ble_eq_true rfl) dL_law_351 zx.dn (fun r2 s1 H locs hφ hE hT => ?_)
  have f3 := hφ
  rw [etx] at f3
  have R4 := hR.ext hE ⟨rfl, rfl, fun _ => rfl, fun _ => rfl, fun _ => rfl, fun _ => rfl⟩
  have a5 : (zI s1 tx 1).toInt = (zI σ tx 1).toInt := by rw [(hTo.k ttx (by decide)).eI hE (by decide) rfl]
  have j6 : zI s1 rB = zI σ rB := (show zI s1 rB = zI σ rB from funext fun k => (hTo.k trB (by decide)).eI hE (by decide) rfl)
  have j7 : zI s1 rT = zI σ rT := (show zI s1 rT = zI σ rT from funext fun k => (hTo.k trT (by decide)).eI hE (by decide) rfl)
  have j8 : zI s1 rI = zI σ rI := (show zI s1 rI = zI σ rI from funext fun k => (hTo.k trI (by decide)).eI hE (by decide) rfl)
  have j9 : zI s1 rK = zI σ rK := (show zI s1 rK = zI σ rK from funext fun k => (hTo.k trK (by decide)).eI hE (by decide) rfl)
  have j10 : zI s1 tx 2 = zI σ tx 2 := (hTo.k ttx (by decide)).eI hE (by decide) rfl
  have j11 : zI s1 tx 3 = zI σ tx 3 := (hTo.k ttx (by decide)).eI hE (by decide) rfl
  have j12 : zI s1 mm 15 = zI σ mm 15 := (hTo.k t_mm (by decide)).eI hE (by decide) rfl
  have j13 : zI s1 mm 16 = zI σ mm 16 := (hTo.k t_mm (by decide)).eI hE (by decide) rfl
  have n14 : zI s1 nw 7 = zI σ nw 7 ∧ zI s1 nw 8 = zI σ nw 8 ∧ zI s1 nw 9 = zI σ nw 9 := ⟨(hTo.k tnw (by decide)).eI hE (by decide) rfl, (hTo.k tnw (by decide)).eI hE (by decide) rfl, (hTo.k tnw (by decide)).eI hE (by decide) rfl⟩
  have n15 : zI s1 sl0 7 = zI σ sl0 7 ∧ zI s1 sl0 8 = zI σ sl0 8 ∧ zI s1 sl0 9 = zI σ sl0 9 := ⟨(hTo.k tsl0 (by decide)).eI hE (by decide) rfl, (hTo.k tsl0 (by decide)).eI hE (by decide) rfl, (hTo.k tsl0 (by decide)).eI hE (by decide) rfl⟩
  have n16 : zI s1 sl1 7 = zI σ sl1 7 ∧ zI s1 sl1 8 = zI σ sl1 8 ∧ zI s1 sl1 9 = zI σ sl1 9 := ⟨(hTo.k tsl1 (by decide)).eI hE (by decide) rfl, (hTo.k tsl1 (by decide)).eI hE (by decide) rfl, (hTo.k tsl1 (by decide)).eI hE (by decide) rfl⟩
  have n17 : ∀ j : Nat, j < 3 → zJ s1 rW j = zJ σ rW j := fun j hj => (hTo.k trW (by decide)).eJ hE (by decide) rfl
  have n18 : zJ s1 rS = zJ σ rS := (show zJ s1 rS = zJ σ rS from funext fun k => (hTo.k trS (by decide)).eJ hE (by decide) rfl)
  have g19 : r2.toInt = (zI σ tx 3).toInt := by rw [f3]
  have a20 : (zI s1 mm 13).toInt = (zI σ mm 13).toInt := by rw [(hTo.k t_mm (by decide)).eI hE (by decide) rfl]
  refine lv_pop hx hb dL_law_354 rfl ?_
  refine lv_aload_n hx hb dL_law_355 rfl (lv_at hl 2 rfl) ?_
  have hTo := hT
  refine tVi (n := 0) (As := []) (rest := []) hx hb hml hown hg hT hK hX (X6s_errorPosition l κ s1 mm (hT.k t_mm (by decide)) R4) sub_gR_fA (mwV k1399 k1400 k1401 k92 k1402) ⟨rfl, by decide, by decide, by decide +kernel⟩ ⟨(Nat.le_of_ble_eq_true rfl), (Nat.le_of_ble_eq_true rfl)⟩ (hT.o20 (hT.k t_mm (by decide))) rfl rfl hl.1 rfl (Nat.le_of_ble_eq_true rfl) dL_law_356 zx.dn (fun r22 s21 H locs hφ hE hT => ?_)
  have f23 := hφ
  have R24 := R4.ext hE ⟨rfl, rfl, fun _ => rfl, fun _ => rfl, fun _ => rfl, fun _ => rfl⟩
  have a25 : (zI s21 tx 1).toInt = (zI s1 tx 1).toInt := by rw [(hTo.k ttx (by decide)).eI hE (by decide) rfl]
  have j26 : zI s21 rB = zI σ rB := ((show zI s21 rB = zI s1 rB from funext fun k => (hTo.k trB (by decide)).eI hE (by decide) rfl)).trans j6
  have j27 : zI s21 rT = zI σ rT := ((show zI s21 rT = zI s1 rT from funext fun k => (hTo.k trT (by decide)).eI hE (by decide) rfl)).trans j7
  have j28 : zI s21 rI = zI σ rI := ((show zI s21 rI = zI s1 rI from funext fun k => (hTo.k trI (by decide)).eI hE (by decide) rfl)).trans j8
  have j29 : zI s21 rK = zI σ rK := ((show zI s21 rK = zI s1 rK from funext fun k => (hTo.k trK (by decide)).eI hE (by decide) rfl)).trans j9
  have j30 : zI s21 tx 2 = zI σ tx 2 := ((hTo.k ttx (by decide)).eI hE (by decide) rfl).trans j10
  have j31 : zI s21 tx 3 = zI σ tx 3 := ((hTo.k ttx (by decide)).eI hE (by decide) rfl).trans j11
  have j32 : zI s21 mm 15 = zI σ mm 15 := ((hTo.k t_mm (by decide)).eI hE (by decide) rfl).trans j12
  have j33 : zI s21 mm 16 = zI σ mm 16 := ((hTo.k t_mm (by decide)).eI hE (by decide) rfl).trans j13
  have n34 : zI s21 nw 7 = zI s1 nw 7 ∧ zI s21 nw 8 = zI s1 nw 8 ∧ zI s21 nw 9 = zI s1 nw 9 := ⟨(hTo.k tnw (by decide)).eI hE (by decide) rfl, (hTo.k tnw (by decide)).eI hE (by decide) rfl, (hTo.k tnw (by decide)).eI hE (by decide) rfl⟩
  have n35 : zI s21 nw 7 = zI σ nw 7 ∧ zI s21 nw 8 = zI σ nw 8 ∧ zI s21 nw 9 = zI σ nw 9 := ⟨n34.1.trans n14.1, n34.2.1.trans n14.2.1, n34.2.2.trans n14.2.2⟩
  have n36 : zI s21 sl0 7 = zI s1 sl0 7 ∧ zI s21 sl0 8 = zI s1 sl0 8 ∧ zI s21 sl0 9 = zI s1 sl0 9 := ⟨(hTo.k tsl0 (by decide)).eI hE (by decide) rfl, (hTo.k tsl0 (by decide)).eI hE (by decide) rfl, (hTo.k tsl0 (by decide)).eI hE (by decide) rfl⟩
  have n37 : zI s21 sl0 7 = zI σ sl0 7 ∧ zI s21 sl0 8 = zI σ sl0 8 ∧ zI s21 sl0 9 = zI σ sl0 9 := ⟨n36.1.trans n15.1, n36.2.1.trans n15.2.1, n36.2.2.trans n15.2.2⟩
  have n38 : zI s21 sl1 7 = zI s1 sl1 7 ∧ zI s21 sl1 8 = zI s1 sl1 8 ∧ zI s21 sl1 9 = zI s1 sl1 9 := ⟨(hTo.k tsl1 (by decide)).eI hE (by decide) rfl, (hTo.k tsl1 (by decide)).eI hE (by decide) rfl, (hTo.k tsl1 (by decide)).eI hE (by decide) rfl⟩
  have n39 : zI s21 sl1 7 = zI σ sl1 7 ∧ zI s21 sl1 8 = zI σ sl1 8 ∧ zI s21 sl1 9 = zI σ sl1 9 := ⟨n38.1.trans n16.1, n38.2.1.trans n16.2.1, n38.2.2.trans n16.2.2⟩
  have n40 : ∀ j : Nat, j < 3 → zJ s21 rW j = zJ s1 rW j := fun j hj => (hTo.k trW (by decide)).eJ hE (by decide) rfl
  have n41 : ∀ j : Nat, j < 3 → zJ s21 rW j = zJ σ rW j := fun j hj => (n40 j hj).trans (n17 j hj)
  have n42 : zJ s21 rS = zJ σ rS := (show zJ s21 rS = zJ s1 rS from funext fun k => (hTo.k trS (by decide)).eJ hE (by decide) rfl).trans n18
  have g43 : r22.toInt = (zI σ mm 16).toInt := by rw [f23, j13]
  have a44 : (zI s21 mm 13).toInt = (zI s1 mm 13).toInt := by rw [(hTo.k t_mm (by decide)).eI hE (by decide) rfl]
  refine lv_pop hx hb dL_law_359 rfl ?_
  refine lv_goto (tgt := 1404) hx hb dL_law_360 (by decide) ?_
  have sl0f : zI s21 rI 0 ≠ 0 → SLT κ s21 x mm 0 := fun hq => (hsl 0 (by decide) (fun q9 => hq (by rw [erI] at q9; rw [j28]; exact q9))).tr (by rw [ers5, esl0]; exact n37) (fun j hj => by rw [erS, n42])
  have sl1f : zI s21 rI 1 ≠ 0 → SLT κ s21 x mm 1 := fun hq => (hsl 1 (by decide) (fun q9 => hq (by rw [erI] at q9; rw [j28]; exact q9))).tr (by rw [ers5, esl1]; exact n39) (fun j hj => by rw [erS, n42])
  exact KK s21 _ _ _ hT.up R24 ⟨by rw [etx]; omega, ⟨by rw [etx, erB, erT, j26, j27]; exact tal_less hal (by omega), by rw [erT, j27]; exact tnn_less hnn (by omega)⟩, ⟨by rw [etx, j30, j32]; exact hco, by rw [etx, j31, j33]; exact hpo⟩, fun i hi => by rw [erI, erK, j28, j29]; exact hkp i hi⟩ (⟨hnw.tr (by rw [enw]; exact n35) (by rw [erW]; exact n41), fun i hi => (show i = 0 ∨ i = 1 by omega).elim (fun e9 => by rw [e9, erI]; exact sl0f) (fun e9 => by rw [e9, erI]; exact sl1f)⟩) (lv_sub hl [0, 1, 2, 3, 4] rfl)
set_option maxHeartbeats 4000000 in
set_option maxRecDepth 100000 in
theorem lc_39 (l : Launch) (κ : Kt) (σ0 : Gh) (x mm out b : Nat) (t_x : zk σ0 x 7) (t_mm : zk σ0 mm 20) (t_out : zk σ0 out 24) (ttx0 : zk σ0 (kR κ x 0) 6) (hdis : DIS κ x) (hlt : l.stackTraces = false) {p : Program} {e : Env} {s : State} {m : MethodId} {below : List Frame} {meth : Method} {c : Code} {L : Nat} {xs : Nat → Int32} {i : Int32} {Q9 : State → Prop} (hx : p.tables.exec = Jvm.exec) (hb : c.code = cL_law) (hml : c.maxLocals = 9) (hown : s.vm.findClass RL = some m.cls) (hg : ∀ w ∈ GW, w.before #[Value.ref b] s = true) (hK : va_K κ.1 vwCl (kTy κ) s) (hX : XY κ (tA σ0 s.heap.size) s s.heap) (hXs : va_X b L xs s s.heap) (hbl : b < s.heap.size) (hbA : ¬ tA σ0 s.heap.size b) (zx : zroomX κ s room_1 601024 7293034) (hi0 : 0 ≤ i.toInt) (hi1 : i.toInt + 6 ≤ L) (hL9 : L ≤ 3072) {σ : Gh} {H : Heap} {locs : List Loc} {ls : Array Slot} (hT : TS κ fA σ0 σ s H locs) (hR : RI κ σ mm) (hrel : LREL κ σ x mm) (hsr : SREL κ σ x mm) (hl : lv_has ls 9 [(4, .int i), (3, .ref out), (2, .ref mm), (1, .ref x), (0, .ref b)]) (KK : ∀ (σ1 : Gh) (H : Heap) (locs : List Loc) (ls : Array Slot), TS (kX κ) fA σ0 σ1 s H locs → RI (kX κ) σ1 mm → LREL κ σ1 x mm → SREL κ σ1 x mm → lv_has ls 9 [(4, .int i), (3, .ref out), (2, .ref mm), (1, .ref x), (0, .ref b)] → W p l e room_1 s m #[Value.ref b] below meth c H locs 601024 7293034 Q9 (F0 m 1404 ls [])) : W p l e room_1 s m #[Value.ref b] below meth c H locs 601024 7293034 Q9 (F0 m 1354 ls []) := by
  obtain ⟨y1, hy1⟩ : ∃ z, z = xs (ix i + 1) := ⟨_, rfl⟩
  obtain ⟨y2, hy2⟩ : ∃ z, z = xs (ix i + 2) := ⟨_, rfl⟩
  obtain ⟨y3, hy3⟩ : ∃ z, z = xs (ix i + 3) := ⟨_, rfl⟩
  obtain ⟨y4, hy4⟩ : ∃ z, z = xs (ix i + 4) := ⟨_, rfl⟩
  obtain ⟨y5, hy5⟩ : ∃ z, z = xs (ix i + 5) := ⟨_, rfl⟩
  have n0 : (0 : Int32).toInt = 0 := by decide
  have n1 : (1 : Int32).toInt = 1 := by decide
  have n2 : (2 : Int32).toInt = 2 := by decide
  have n3 : (3 : Int32).toInt = 3 := by decide
  have n4 : (4 : Int32).toInt = 4 := by decide
  have n5 : (5 : Int32).toInt = 5 := by decide
  obtain ⟨tx, etx⟩ : ∃ z, kR κ x 0 = z := ⟨_, rfl⟩
  have ttx : zk σ0 tx 6 := by rw [← etx]; exact ttx0
  obtain ⟨rB, erB⟩ : ∃ z, kR κ tx 0 = z := ⟨_, rfl⟩
  have trB : zk σ0 rB 14 := by rw [← erB]; exact hT.kr (hT.ref (hT.k ttx (by decide)) (by decide) (by decide) (by decide)) (by decide) (by decide)
  obtain ⟨rT, erT⟩ : ∃ z, kR κ mm 12 = z := ⟨_, rfl⟩
  have trT : zk σ0 rT 23 := by rw [← erT]; exact hT.kr (hT.ref (hT.k t_mm (by decide)) (by decide) (by decide) (by decide)) (by decide) (by decide)
  obtain ⟨rI, erI⟩ : ∃ z, kR κ x 6 = z := ⟨_, rfl⟩
  have trI : zk σ0 rI 13 := by rw [← erI]; exact hT.kr (hT.ref (hT.k t_x (by decide)) (by decide) (by decide) (by decide)) (by decide) (by decide)
  obtain ⟨rK, erK⟩ : ∃ z, kR κ mm 4 = z := ⟨_, rfl⟩
  have trK : zk σ0 rK 29 := by rw [← erK]; exact hT.kr (hT.ref (hT.k t_mm (by decide)) (by decide) (by decide) (by decide)) (by decide) (by decide)
  obtain ⟨hlen, ⟨hal, hnn⟩, ⟨hco, hpo⟩, hkp⟩ := hrel
  rw [etx] at hlen hal hco hpo
  rw [erB, erT] at hal
  rw [erT] at hnn
  rw [erI, erK] at hkp
  have btx := (hT.P (hT.k ttx (by decide)) (by decide)).1
  have btxl := btx.1
  have btxh := btx.2
  obtain ⟨nw, enw⟩ : ∃ z, kR κ x 3 = z := ⟨_, rfl⟩
  have tnw : zk σ0 nw 3 := by rw [← enw]; exact hT.kr (hT.ref (hT.k t_x (by decide)) (by decide) (by decide) (by decide)) (by decide) (by decide)
  obtain ⟨tr, etr⟩ : ∃ z, kR κ x 4 = z := ⟨_, rfl⟩
  have ttr : zk σ0 tr 3 := by rw [← etr]; exact hT.kr (hT.ref (hT.k t_x (by decide)) (by decide) (by decide) (by decide)) (by decide) (by decide)
  obtain ⟨rs5, ers5⟩ : ∃ z, kR κ x 5 = z := ⟨_, rfl⟩
  have trs5 : zk σ0 rs5 12 := by rw [← ers5]; exact hT.kr (hT.ref (hT.k t_x (by decide)) (by decide) (by decide) (by decide)) (by decide) (by decide)
  obtain ⟨sl0, esl0⟩ : ∃ z, kR κ rs5 0 = z := ⟨_, rfl⟩
  have tsl0 : zk σ0 sl0 3 := by rw [← esl0]; exact hT.kr (hT.ref (hT.k trs5 (by decide)) (by decide) (by decide) (by decide)) (by decide) (by decide)
  obtain ⟨sl1, esl1⟩ : ∃ z, kR κ rs5 1 = z := ⟨_, rfl⟩
  have tsl1 : zk σ0 sl1 3 := by rw [← esl1]; exact hT.kr (hT.ref (hT.k trs5 (by decide)) (by decide) (by decide) (by decide)) (by decide) (by decide)
  obtain ⟨rW, erW⟩ : ∃ z, kR κ mm 1 = z := ⟨_, rfl⟩
  have trW : zk σ0 rW 21 := by rw [← erW]; exact hT.kr (hT.ref (hT.k t_mm (by decide)) (by decide) (by decide) (by decide)) (by decide) (by decide)
  obtain ⟨rS, erS⟩ : ∃ z, kR κ mm 3 = z := ⟨_, rfl⟩
  have trS : zk σ0 rS 22 := by rw [← erS]; exact hT.kr (hT.ref (hT.k t_mm (by decide)) (by decide) (by decide) (by decide)) (by decide) (by decide)
  obtain ⟨hnw, hsl⟩ := hsr
  obtain ⟨hd1, ⟨hd2, hd3⟩, hd4, hd5⟩ := hdis
  have d_nt : nw ≠ tr := by rw [← enw, ← etr]; exact hd2
  have d_n0 : nw ≠ sl0 := by rw [← enw, ← esl0, ← ers5]; exact hd3 0 (by decide)
  have d_t0 : sl0 ≠ tr := by rw [← etr, ← esl0, ← ers5]; exact fun q => hd4 0 (by decide) q.symm
  have d_n1 : nw ≠ sl1 := by rw [← enw, ← esl1, ← ers5]; exact hd3 1 (by decide)
  have d_t1 : sl1 ≠ tr := by rw [← etr, ← esl1, ← ers5]; exact fun q => hd4 1 (by decide) q.symm
  have d_01 : sl0 ≠ sl1 := by rw [← esl0, ← esl1, ← ers5]; exact hd5
  have knw : zk σ nw 3 := hT.k tnw (by decide)
  have ksl0 : zk σ sl0 3 := hT.k tsl0 (by decide)
  have ksl1 : zk σ sl1 3 := hT.k tsl1 (by decide)
  have hdn : ∀ i : Nat, i < 2 → nw ≠ kR κ (kR κ x 5) i := by rw [← enw]; exact hd3
  refine lv_aload_n hx hb dL_law_1354 rfl (lv_at hl 3 rfl) ?_
  refine lv_aload_n hx hb dL_law_1355 rfl (lv_at hl 4 rfl) ?_
  refine lv_iload hx hb dL_law_1356 (lv_at hl 0 rfl) ?_
  refine lv_iconst (v := 1) hx hb dL_law_1358 (by decide) ?_
  refine lv_iadd hx hb dL_law_1359 ?_
  refine g_add (by omega) (by omega) (fun t1 ht1 => ?_)
  refine va_sld hx hb hXs hbl hbA hT.2.2.2 (g_in (by omega) (by omega)) dL_law_1360 ?_
  refine ti y1 (by rw [hy1]; exact congrArg xs (show t1.toNatClampNeg = ix i + 1 from by show t1.toInt.toNat = ix i + 1; unfold ix; omega)) ?_
  have hTo := hT
  refine tHi (n := 2) (As := [.ref x, .int y1]) (rest := []) hx hb hml hown hg hT hK hX (L_save l κ σ x y1 (hT.k t_x (by decide)) hlt) sub_hfSv_fA (mwHS k1189 k1190 k83 k1191) ⟨by decide, by decide, by decide +kernel⟩ ⟨(Nat.le_of_ble_eq_true rfl), (Nat.le_of_ble_eq_true rfl)⟩ rfl hl.1 rfl (Nat.le_of_ble_eq_true rfl) dL_law_1361 zx (fun r3 s2 H locs hφ hE hT => ?_)
  have f4 := hφ
  have R5 := hR.ext hE ⟨rfl, rfl, fun _ => rfl, fun _ => rfl, fun _ => rfl, fun _ => rfl⟩
  have a6 : (zI s2 tx 1).toInt = (zI σ tx 1).toInt := by rw [(hTo.k ttx (by decide)).eI hE (by decide) rfl]
  have j7 : zI s2 rB = zI σ rB := (show zI s2 rB = zI σ rB from funext fun k => (hTo.k trB (by decide)).eI hE (by decide) rfl)
  have j8 : zI s2 rT = zI σ rT := (show zI s2 rT = zI σ rT from funext fun k => (hTo.k trT (by decide)).eI hE (by decide) rfl)
  have j9 : zI s2 rK = zI σ rK := (show zI s2 rK = zI σ rK from funext fun k => (hTo.k trK (by decide)).eI hE (by decide) rfl)
  have j10 : zI s2 tx 2 = zI σ tx 2 := (hTo.k ttx (by decide)).eI hE (by decide) rfl
  have j11 : zI s2 tx 3 = zI σ tx 3 := (hTo.k ttx (by decide)).eI hE (by decide) rfl
  have j12 : zI s2 mm 15 = zI σ mm 15 := (hTo.k t_mm (by decide)).eI hE (by decide) rfl
  have j13 : zI s2 mm 16 = zI σ mm 16 := (hTo.k t_mm (by decide)).eI hE (by decide) rfl
  have n14 : ∀ j : Nat, j < 3 → zJ s2 rW j = zJ σ rW j := fun j hj => (hTo.k trW (by decide)).eJ hE (by decide) rfl
  have n15 : zJ s2 rS = zJ σ rS := (show zJ s2 rS = zJ σ rS from funext fun k => (hTo.k trS (by decide)).eJ hE (by decide) rfl)
  rw [erI] at f4
  rw [enw] at f4
  have nn9 : zI s2 nw 7 = zI σ nw 7 ∧ zI s2 nw 8 = zI σ nw 8 ∧ zI s2 nw 9 = zI σ nw 9 := f4.elim (fun q9 => q9.2.2.2.2.2 nw (hdn (ix y1) (by have z8 := q9.1; have z9 := q9.2.1; unfold ix; omega)) knw) (fun q9 => q9.2.2.2 nw knw)
  have sc0 : (0 ≤ y1.toInt ∧ y1.toInt ≤ 1 ∧ ix y1 = 0 ∧ zI s2 sl0 7 = zI σ nw 7 ∧ zI s2 sl0 8 = zI σ nw 8 ∧ zI s2 sl0 9 = zI σ nw 9) ∨ (¬ (0 ≤ y1.toInt ∧ y1.toInt ≤ 1 ∧ ix y1 = 0) ∧ zI s2 sl0 7 = zI σ sl0 7 ∧ zI s2 sl0 8 = zI σ sl0 8 ∧ zI s2 sl0 9 = zI σ sl0 9) := by
    rcases f4 with ⟨c1, c2, c3, c4, c5, c6⟩ | ⟨c1, c2, c3, c4⟩
    · have i9 : (ix y1 : Int) = y1.toInt := by unfold ix; omega
      by_cases e9 : ix y1 = 0
      · rw [e9, ers5, esl0] at c5; exact Or.inl ⟨c1, c2, e9, c5⟩
      · exact Or.inr ⟨fun q9 => e9 q9.2.2, c6 sl0 (by rw [show ix y1 = 1 from by omega, ers5, esl1]; exact d_01) ksl0⟩
    · exact Or.inr ⟨fun q9 => by omega, c4 sl0 ksl0⟩
  have sc1 : (0 ≤ y1.toInt ∧ y1.toInt ≤ 1 ∧ ix y1 = 1 ∧ zI s2 sl1 7 = zI σ nw 7 ∧ zI s2 sl1 8 = zI σ nw 8 ∧ zI s2 sl1 9 = zI σ nw 9) ∨ (¬ (0 ≤ y1.toInt ∧ y1.toInt ≤ 1 ∧ ix y1 = 1) ∧ zI s2 sl1 7 = zI σ sl1 7 ∧ zI s2 sl1 8 = zI σ sl1 8 ∧ zI s2 sl1 9 = zI σ sl1 9) := by
    rcases f4 with ⟨c1, c2, c3, c4, c5, c6⟩ | ⟨c1, c2, c3, c4⟩
    · have i9 : (ix y1 : Int) = y1.toInt := by unfold ix; omega
      by_cases e9 : ix y1 = 1
      · rw [e9, ers5, esl1] at c5; exact Or.inl ⟨c1, c2, e9, c5⟩
      · exact Or.inr ⟨fun q9 => e9 q9.2.2, c6 sl1 (by rw [show ix y1 = 0 from by omega, ers5, esl0]; exact fun q9 => d_01 q9.symm) ksl1⟩
    · exact Or.inr ⟨fun q9 => by omega, c4 sl1 ksl1⟩
  have a16 : (zI s2 mm 13).toInt = (zI σ mm 13).toInt := by rw [(hTo.k t_mm (by decide)).eI hE (by decide) rfl]
  refine lv_istore (lv' := [(5, .int r3), (4, .int i), (3, .ref out), (2, .ref mm), (1, .ref x), (0, .ref b)]) hx hb dL_law_1364 hl (by decide) rfl (fun ls hl => ?_)
  refine lv_aload_n hx hb dL_law_1366 rfl (lv_at hl 3 rfl) ?_
  refine lv_aload_n hx hb dL_law_1367 rfl (lv_at hl 5 rfl) ?_
  refine lv_iload hx hb dL_law_1368 (lv_at hl 1 rfl) ?_
  refine lv_iconst (v := 1) hx hb dL_law_1370 (by decide) ?_
  refine lv_iadd hx hb dL_law_1371 ?_
  refine g_add (by omega) (by omega) (fun t17 ht17 => ?_)
  refine va_sld hx hb hXs hbl hbA hT.2.2.2 (g_in (by omega) (by omega)) dL_law_1372 ?_
  refine ti y1 (by rw [hy1]; exact congrArg xs (show t17.toNatClampNeg = ix i + 1 from by show t17.toInt.toNat = ix i + 1; unfold ix; omega)) ?_
  have hTo := hT
  refine tVv (n := 1) (As := [.int y1]) (rest := []) hx hb hml hown hg hT hK hX (X6s_save l (kX κ) s2 mm y1 (hT.k t_mm (by decide)) R5) sub_gS_fA (mwV k1686 k1687 k1688 k92 k1689) ⟨rfl, by decide, by decide, by decide +kernel⟩ ⟨(Nat.le_of_ble_eq_true rfl), (Nat.le_of_ble_eq_true rfl)⟩ (hT.o20 (hT.k t_mm (by decide))) rfl rfl hl.1 rfl (Nat.le_of_ble_eq_true rfl) dL_law_1373 zx (fun s18 H locs hφ hE hT => ?_)
  obtain ⟨f20, f21⟩ := hφ
  have a22 : (zI s18 tx 1).toInt = (zI s2 tx 1).toInt := by rw [(hTo.k ttx (by decide)).eI hE (by decide) rfl]
  have j23 : zI s18 rB = zI σ rB := ((show zI s18 rB = zI s2 rB from funext fun k => (hTo.k trB (by decide)).eI hE (by decide) rfl)).trans j7
  have j24 : zI s18 rT = zI σ rT := ((show zI s18 rT = zI s2 rT from funext fun k => (hTo.k trT (by decide)).eI hE (by decide) rfl)).trans j8
  have j25 : zI s18 rI = zI s2 rI := (show zI s18 rI = zI s2 rI from funext fun k => (hTo.k trI (by decide)).eI hE (by decide) rfl)
  have j26 : zI s18 tx 2 = zI σ tx 2 := ((hTo.k ttx (by decide)).eI hE (by decide) rfl).trans j10
  have j27 : zI s18 tx 3 = zI σ tx 3 := ((hTo.k ttx (by decide)).eI hE (by decide) rfl).trans j11
  have j28 : zI s18 mm 15 = zI σ mm 15 := ((hTo.k t_mm (by decide)).eI hE (by decide) rfl).trans j12
  have j29 : zI s18 mm 16 = zI σ mm 16 := ((hTo.k t_mm (by decide)).eI hE (by decide) rfl).trans j13
  have n30 : zI s18 nw 7 = zI s2 nw 7 ∧ zI s18 nw 8 = zI s2 nw 8 ∧ zI s18 nw 9 = zI s2 nw 9 := ⟨(hTo.k tnw (by decide)).eI hE (by decide) rfl, (hTo.k tnw (by decide)).eI hE (by decide) rfl, (hTo.k tnw (by decide)).eI hE (by decide) rfl⟩
  have n31 : zI s18 nw 7 = zI σ nw 7 ∧ zI s18 nw 8 = zI σ nw 8 ∧ zI s18 nw 9 = zI σ nw 9 := ⟨n30.1.trans nn9.1, n30.2.1.trans nn9.2.1, n30.2.2.trans nn9.2.2⟩
  have n32 : zI s18 sl0 7 = zI s2 sl0 7 ∧ zI s18 sl0 8 = zI s2 sl0 8 ∧ zI s18 sl0 9 = zI s2 sl0 9 := ⟨(hTo.k tsl0 (by decide)).eI hE (by decide) rfl, (hTo.k tsl0 (by decide)).eI hE (by decide) rfl, (hTo.k tsl0 (by decide)).eI hE (by decide) rfl⟩
  have n33 : zI s18 sl1 7 = zI s2 sl1 7 ∧ zI s18 sl1 8 = zI s2 sl1 8 ∧ zI s18 sl1 9 = zI s2 sl1 9 := ⟨(hTo.k tsl1 (by decide)).eI hE (by decide) rfl, (hTo.k tsl1 (by decide)).eI hE (by decide) rfl, (hTo.k tsl1 (by decide)).eI hE (by decide) rfl⟩
  have n34 : ∀ j : Nat, j < 3 → zJ s18 rW j = zJ s2 rW j := fun j hj => (hTo.k trW (by decide)).eJ hE (by decide) rfl
  have n35 : ∀ j : Nat, j < 3 → zJ s18 rW j = zJ σ rW j := fun j hj => (n34 j hj).trans (n14 j hj)
  rw [show kR (kX κ) mm 4 = rK from erK] at f21
  rw [show kR (kX κ) mm 3 = rS from erS, show kR (kX κ) mm 1 = rW from erW] at f21
  have sm0 : (0 ≤ y1.toInt ∧ y1.toInt ≤ 1 ∧ ix y1 = 0 ∧ ∀ j : Nat, j < 3 → zJ s18 rS (609 * 0 + j) = zJ s2 rW j) ∨ (¬ (0 ≤ y1.toInt ∧ y1.toInt ≤ 1 ∧ ix y1 = 0) ∧ ∀ j : Nat, j < 3 → zJ s18 rS (609 * 0 + j) = zJ s2 rS (609 * 0 + j)) := by
    rcases f21 with ⟨m1, m2, m4, m5, m6⟩ | ⟨m1, m4, m5⟩
    · have i9 : (ix y1 : Int) = y1.toInt := by unfold ix; omega
      by_cases e9 : ix y1 = 0
      · rw [e9] at m5; exact Or.inl ⟨m1, m2, e9, m5⟩
      · exact Or.inr ⟨fun q9 => e9 q9.2.2, fun j hj => m6 _ (by omega)⟩
    · exact Or.inr ⟨fun q9 => by omega, fun j hj => by rw [m5]⟩
  have sm1 : (0 ≤ y1.toInt ∧ y1.toInt ≤ 1 ∧ ix y1 = 1 ∧ ∀ j : Nat, j < 3 → zJ s18 rS (609 * 1 + j) = zJ s2 rW j) ∨ (¬ (0 ≤ y1.toInt ∧ y1.toInt ≤ 1 ∧ ix y1 = 1) ∧ ∀ j : Nat, j < 3 → zJ s18 rS (609 * 1 + j) = zJ s2 rS (609 * 1 + j)) := by
    rcases f21 with ⟨m1, m2, m4, m5, m6⟩ | ⟨m1, m4, m5⟩
    · have i9 : (ix y1 : Int) = y1.toInt := by unfold ix; omega
      by_cases e9 : ix y1 = 1
      · rw [e9] at m5; exact Or.inl ⟨m1, m2, e9, m5⟩
      · exact Or.inr ⟨fun q9 => e9 q9.2.2, fun j hj => m6 _ (by omega)⟩
    · exact Or.inr ⟨fun q9 => by omega, fun j hj => by rw [m5]⟩
  have a36 : (zI s18 mm 13).toInt = (zI s2 mm 13).toInt := by rw [(hTo.k t_mm (by decide)).eI hE (by decide) rfl]
  refine lv_goto (tgt := 1404) hx hb dL_law_1376 (by decide) ?_
  have sl0f : zI s18 rI 0 ≠ 0 → SLT κ s18 x mm 0 := by
    intro hq
    rw [j25] at hq
    rcases sc0 with ⟨c1, c2, c3, c4⟩ | ⟨c1, c4⟩ <;> rcases sm0 with ⟨m1, m2, m3, m4⟩ | ⟨m1, m4⟩
    · exact SLT.sav hnw (by rw [ers5, esl0, enw]; exact ⟨n32.1.trans c4.1, n32.2.1.trans c4.2.1, n32.2.2.trans c4.2.2⟩) (fun j hj => by rw [erS, erW]; exact (congrFun (show zJ s18 rS = zJ s18 rS from rfl) _).trans ((m4 j hj).trans (n14 j hj)))
    · exact absurd ⟨c1, c2, c3⟩ m1
    · exact absurd ⟨m1, m2, m3⟩ c1
    · have hq9 : zI σ rI 0 ≠ 0 := by
        rcases f4 with ⟨a1, a2, a3, a4, -⟩ | ⟨a1, a2, a4, -⟩
        · rw [a4 0, if_neg (show ¬ (0 : Nat) = ix y1 from fun e9 => c1 ⟨a1, a2, e9.symm⟩)] at hq; exact hq
        · rw [a4] at hq; exact hq
      exact (hsl 0 (by decide) (by rw [erI]; exact hq9)).tr (by rw [ers5, esl0]; exact ⟨n32.1.trans c4.1, n32.2.1.trans c4.2.1, n32.2.2.trans c4.2.2⟩) (fun j hj => by rw [erS]; exact (congrFun (show zJ s18 rS = zJ s18 rS from rfl) _).trans ((m4 j hj).trans (congrFun n15 _)))
  have sl1f : zI s18 rI 1 ≠ 0 → SLT κ s18 x mm 1 := by
    intro hq
    rw [j25] at hq
    rcases sc1 with ⟨c1, c2, c3, c4⟩ | ⟨c1, c4⟩ <;> rcases sm1 with ⟨m1, m2, m3, m4⟩ | ⟨m1, m4⟩
    · exact SLT.sav hnw (by rw [ers5, esl1, enw]; exact ⟨n33.1.trans c4.1, n33.2.1.trans c4.2.1, n33.2.2.trans c4.2.2⟩) (fun j hj => by rw [erS, erW]; exact (congrFun (show zJ s18 rS = zJ s18 rS from rfl) _).trans ((m4 j hj).trans (n14 j hj)))
    · exact absurd ⟨c1, c2, c3⟩ m1
    · exact absurd ⟨m1, m2, m3⟩ c1
    · have hq9 : zI σ rI 1 ≠ 0 := by
        rcases f4 with ⟨a1, a2, a3, a4, -⟩ | ⟨a1, a2, a4, -⟩
        · rw [a4 1, if_neg (show ¬ (1 : Nat) = ix y1 from fun e9 => c1 ⟨a1, a2, e9.symm⟩)] at hq; exact hq
        · rw [a4] at hq; exact hq
      exact (hsl 1 (by decide) (by rw [erI]; exact hq9)).tr (by rw [ers5, esl1]; exact ⟨n33.1.trans c4.1, n33.2.1.trans c4.2.1, n33.2.2.trans c4.2.2⟩) (fun j hj => by rw [erS]; exact (congrFun (show zJ s18 rS = zJ s18 rS from rfl) _).trans ((m4 j hj).trans (congrFun n15 _)))
  exact KK s18 _ _ _ hT f20 ⟨by rw [etx]; omega, ⟨by rw [etx, erB, erT, j23, j24]; exact tal_less hal (by omega), by rw [erT, j24]; exact tnn_less hnn (by omega)⟩, ⟨by rw [etx, j26, j28]; exact hco, by rw [etx, j27, j29]; exact hpo⟩, fun i hi => by rw [erI, erK, j25]; rcases f4 with ⟨c1, c2, c3, c4, -, -⟩ | ⟨c1, c2, c4, -⟩ <;> rcases f21 with ⟨m1, m2, m4, -, -⟩ | ⟨m1, m4, -⟩ <;> first | (exfalso; omega) | (rw [c4 i, m4 i, j9]; by_cases e9 : i = ix y1; rw [if_pos e9, if_pos e9]; rw [if_neg e9, if_neg e9]; exact hkp i hi) | (rw [c4, m4, j9]; exact hkp i hi)⟩ (⟨hnw.tr (by rw [enw]; exact n31) (by rw [erW]; exact n35), fun i hi => (show i = 0 ∨ i = 1 by omega).elim (fun e9 => by rw [e9, erI]; exact sl0f) (fun e9 => by rw [e9, erI]; exact sl1f)⟩) (lv_sub hl [1, 2, 3, 4, 5] rfl)
set_option maxHeartbeats 4000000 in
set_option maxRecDepth 100000 in
theorem lc_40 (l : Launch) (κ : Kt) (σ0 : Gh) (x mm out b : Nat) (t_x : zk σ0 x 7) (t_mm : zk σ0 mm 20) (t_out : zk σ0 out 24) (ttx0 : zk σ0 (kR κ x 0) 6) (hdis : DIS κ x) (hlt : l.stackTraces = false) {p : Program} {e : Env} {s : State} {m : MethodId} {below : List Frame} {meth : Method} {c : Code} {L : Nat} {xs : Nat → Int32} {i : Int32} {Q9 : State → Prop} (hx : p.tables.exec = Jvm.exec) (hb : c.code = cL_law) (hml : c.maxLocals = 9) (hown : s.vm.findClass RL = some m.cls) (hg : ∀ w ∈ GW, w.before #[Value.ref b] s = true) (hK : va_K κ.1 vwCl (kTy κ) s) (hX : XY κ (tA σ0 s.heap.size) s s.heap) (hXs : va_X b L xs s s.heap) (hbl : b < s.heap.size) (hbA : ¬ tA σ0 s.heap.size b) (zx : zroomX κ s room_1 601024 7293034) (hi0 : 0 ≤ i.toInt) (hi1 : i.toInt + 6 ≤ L) (hL9 : L ≤ 3072) {σ : Gh} {H : Heap} {locs : List Loc} {ls : Array Slot} (hT : TS κ fA σ0 σ s H locs) (hR : RI κ σ mm) (hrel : LREL κ σ x mm) (hsr : SREL κ σ x mm) (hl : lv_has ls 9 [(4, .int i), (3, .ref out), (2, .ref mm), (1, .ref x), (0, .ref b)]) (KK : ∀ (σ1 : Gh) (H : Heap) (locs : List Loc) (ls : Array Slot), TS (kX κ) fA σ0 σ1 s H locs → RI (kX κ) σ1 mm → LREL κ σ1 x mm → SREL κ σ1 x mm → lv_has ls 9 [(4, .int i), (3, .ref out), (2, .ref mm), (1, .ref x), (0, .ref b)] → W p l e room_1 s m #[Value.ref b] below meth c H locs 601024 7293034 Q9 (F0 m 1404 ls [])) : W p l e room_1 s m #[Value.ref b] below meth c H locs 601024 7293034 Q9 (F0 m 1379 ls []) := by
  obtain ⟨y1, hy1⟩ : ∃ z, z = xs (ix i + 1) := ⟨_, rfl⟩
  obtain ⟨y2, hy2⟩ : ∃ z, z = xs (ix i + 2) := ⟨_, rfl⟩
  obtain ⟨y3, hy3⟩ : ∃ z, z = xs (ix i + 3) := ⟨_, rfl⟩
  obtain ⟨y4, hy4⟩ : ∃ z, z = xs (ix i + 4) := ⟨_, rfl⟩
  obtain ⟨y5, hy5⟩ : ∃ z, z = xs (ix i + 5) := ⟨_, rfl⟩
  have n0 : (0 : Int32).toInt = 0 := by decide
  have n1 : (1 : Int32).toInt = 1 := by decide
  have n2 : (2 : Int32).toInt = 2 := by decide
  have n3 : (3 : Int32).toInt = 3 := by decide
  have n4 : (4 : Int32).toInt = 4 := by decide
  have n5 : (5 : Int32).toInt = 5 := by decide
  obtain ⟨tx, etx⟩ : ∃ z, kR κ x 0 = z := ⟨_, rfl⟩
  have ttx : zk σ0 tx 6 := by rw [← etx]; exact ttx0
  obtain ⟨rB, erB⟩ : ∃ z, kR κ tx 0 = z := ⟨_, rfl⟩
  have trB : zk σ0 rB 14 := by rw [← erB]; exact hT.kr (hT.ref (hT.k ttx (by decide)) (by decide) (by decide) (by decide)) (by decide) (by decide)
  obtain ⟨rT, erT⟩ : ∃ z, kR κ mm 12 = z := ⟨_, rfl⟩
  have trT : zk σ0 rT 23 := by rw [← erT]; exact hT.kr (hT.ref (hT.k t_mm (by decide)) (by decide) (by decide) (by decide)) (by decide) (by decide)
  obtain ⟨rI, erI⟩ : ∃ z, kR κ x 6 = z := ⟨_, rfl⟩
  have trI : zk σ0 rI 13 := by rw [← erI]; exact hT.kr (hT.ref (hT.k t_x (by decide)) (by decide) (by decide) (by decide)) (by decide) (by decide)
  obtain ⟨rK, erK⟩ : ∃ z, kR κ mm 4 = z := ⟨_, rfl⟩
  have trK : zk σ0 rK 29 := by rw [← erK]; exact hT.kr (hT.ref (hT.k t_mm (by decide)) (by decide) (by decide) (by decide)) (by decide) (by decide)
  obtain ⟨hlen, ⟨hal, hnn⟩, ⟨hco, hpo⟩, hkp⟩ := hrel
  rw [etx] at hlen hal hco hpo
  rw [erB, erT] at hal
  rw [erT] at hnn
  rw [erI, erK] at hkp
  have btx := (hT.P (hT.k ttx (by decide)) (by decide)).1
  have btxl := btx.1
  have btxh := btx.2
  obtain ⟨nw, enw⟩ : ∃ z, kR κ x 3 = z := ⟨_, rfl⟩
  have tnw : zk σ0 nw 3 := by rw [← enw]; exact hT.kr (hT.ref (hT.k t_x (by decide)) (by decide) (by decide) (by decide)) (by decide) (by decide)
  obtain ⟨tr, etr⟩ : ∃ z, kR κ x 4 = z := ⟨_, rfl⟩
  have ttr : zk σ0 tr 3 := by rw [← etr]; exact hT.kr (hT.ref (hT.k t_x (by decide)) (by decide) (by decide) (by decide)) (by decide) (by decide)
  obtain ⟨rs5, ers5⟩ : ∃ z, kR κ x 5 = z := ⟨_, rfl⟩
  have trs5 : zk σ0 rs5 12 := by rw [← ers5]; exact hT.kr (hT.ref (hT.k t_x (by decide)) (by decide) (by decide) (by decide)) (by decide) (by decide)
  obtain ⟨sl0, esl0⟩ : ∃ z, kR κ rs5 0 = z := ⟨_, rfl⟩
  have tsl0 : zk σ0 sl0 3 := by rw [← esl0]; exact hT.kr (hT.ref (hT.k trs5 (by decide)) (by decide) (by decide) (by decide)) (by decide) (by decide)
  obtain ⟨sl1, esl1⟩ : ∃ z, kR κ rs5 1 = z := ⟨_, rfl⟩
  have tsl1 : zk σ0 sl1 3 := by rw [← esl1]; exact hT.kr (hT.ref (hT.k trs5 (by decide)) (by decide) (by decide) (by decide)) (by decide) (by decide)
  obtain ⟨rW, erW⟩ : ∃ z, kR κ mm 1 = z := ⟨_, rfl⟩
  have trW : zk σ0 rW 21 := by rw [← erW]; exact hT.kr (hT.ref (hT.k t_mm (by decide)) (by decide) (by decide) (by decide)) (by decide) (by decide)
  obtain ⟨rS, erS⟩ : ∃ z, kR κ mm 3 = z := ⟨_, rfl⟩
  have trS : zk σ0 rS 22 := by rw [← erS]; exact hT.kr (hT.ref (hT.k t_mm (by decide)) (by decide) (by decide) (by decide)) (by decide) (by decide)
  obtain ⟨hnw, hsl⟩ := hsr
  obtain ⟨hd1, ⟨hd2, hd3⟩, hd4, hd5⟩ := hdis
  have d_nt : nw ≠ tr := by rw [← enw, ← etr]; exact hd2
  have d_n0 : nw ≠ sl0 := by rw [← enw, ← esl0, ← ers5]; exact hd3 0 (by decide)
  have d_t0 : sl0 ≠ tr := by rw [← etr, ← esl0, ← ers5]; exact fun q => hd4 0 (by decide) q.symm
  have d_n1 : nw ≠ sl1 := by rw [← enw, ← esl1, ← ers5]; exact hd3 1 (by decide)
  have d_t1 : sl1 ≠ tr := by rw [← etr, ← esl1, ← ers5]; exact fun q => hd4 1 (by decide) q.symm
  have d_01 : sl0 ≠ sl1 := by rw [← esl0, ← esl1, ← ers5]; exact hd5
  have knw : zk σ nw 3 := hT.k tnw (by decide)
  have ksl0 : zk σ sl0 3 := hT.k tsl0 (by decide)
  have ksl1 : zk σ sl1 3 := hT.k tsl1 (by decide)
  refine lv_aload_n hx hb dL_law_1379 rfl (lv_at hl 3 rfl) ?_
  refine lv_aload_n hx hb dL_law_1380 rfl (lv_at hl 4 rfl) ?_
  refine lv_iload hx hb dL_law_1381 (lv_at hl 0 rfl) ?_
  refine lv_iconst (v := 1) hx hb dL_law_1383 (by decide) ?_
  refine lv_iadd hx hb dL_law_1384 ?_
  refine g_add (by omega) (by omega) (fun t1 ht1 => ?_)
  refine va_sld hx hb hXs hbl hbA hT.2.2.2 (g_in (by omega) (by omega)) dL_law_1385 ?_
  refine ti y1 (by rw [hy1]; exact congrArg xs (show t1.toNatClampNeg = ix i + 1 from by show t1.toInt.toNat = ix i + 1; unfold ix; omega)) ?_
  have hTo := hT
  refine tHi (n := 2) (As := [.ref x, .int y1]) (rest := []) hx hb hml hown hg hT hK hX (L_restore l κ σ x y1 (hT.k t_x (by decide)) hlt) sub_hfCp_fA (mwHS k1196 k1197 k83 k1198) ⟨by decide, by decide, by decide +kernel⟩ ⟨(Nat.le_of_ble_eq_true rfl), (Nat.le_of_ble_eq_true rfl)⟩ rfl hl.1 rfl (Nat.le_of_ble_eq_true rfl) dL_law_1386 zx (fun r3 s2 H locs hφ hE hT => ?_)
  have f4 := hφ
  have R5 := hR.ext hE ⟨rfl, rfl, fun _ => rfl, fun _ => rfl, fun _ => rfl, fun _ => rfl⟩
  have a6 : (zI s2 tx 1).toInt = (zI σ tx 1).toInt := by rw [(hTo.k ttx (by decide)).eI hE (by decide) rfl]
  have j7 : zI s2 rB = zI σ rB := (show zI s2 rB = zI σ rB from funext fun k => (hTo.k trB (by decide)).eI hE (by decide) rfl)
  have j8 : zI s2 rT = zI σ rT := (show zI s2 rT = zI σ rT from funext fun k => (hTo.k trT (by decide)).eI hE (by decide) rfl)
  have j9 : zI s2 rI = zI σ rI := (show zI s2 rI = zI σ rI from funext fun k => (hTo.k trI (by decide)).eI hE (by decide) rfl)
  have j10 : zI s2 rK = zI σ rK := (show zI s2 rK = zI σ rK from funext fun k => (hTo.k trK (by decide)).eI hE (by decide) rfl)
  have j11 : zI s2 tx 2 = zI σ tx 2 := (hTo.k ttx (by decide)).eI hE (by decide) rfl
  have j12 : zI s2 tx 3 = zI σ tx 3 := (hTo.k ttx (by decide)).eI hE (by decide) rfl
  have j13 : zI s2 mm 15 = zI σ mm 15 := (hTo.k t_mm (by decide)).eI hE (by decide) rfl
  have j14 : zI s2 mm 16 = zI σ mm 16 := (hTo.k t_mm (by decide)).eI hE (by decide) rfl
  have n15 : ∀ j : Nat, j < 3 → zJ s2 rW j = zJ σ rW j := fun j hj => (hTo.k trW (by decide)).eJ hE (by decide) rfl
  have n16 : zJ s2 rS = zJ σ rS := (show zJ s2 rS = zJ σ rS from funext fun k => (hTo.k trS (by decide)).eJ hE (by decide) rfl)
  rw [erI] at f4
  rw [enw] at f4
  have nz0 : zI s2 sl0 7 = zI σ sl0 7 ∧ zI s2 sl0 8 = zI σ sl0 8 ∧ zI s2 sl0 9 = zI σ sl0 9 := f4.elim (fun q9 => q9.2.2.2.2.2 sl0 (fun e9 => d_n0 e9.symm) ksl0) (fun q9 => q9.elim (fun q9 => q9.2.2 sl0 ksl0) (fun q9 => q9.2.2.2.2 sl0 ksl0))
  have nz1 : zI s2 sl1 7 = zI σ sl1 7 ∧ zI s2 sl1 8 = zI σ sl1 8 ∧ zI s2 sl1 9 = zI σ sl1 9 := f4.elim (fun q9 => q9.2.2.2.2.2 sl1 (fun e9 => d_n1 e9.symm) ksl1) (fun q9 => q9.elim (fun q9 => q9.2.2 sl1 ksl1) (fun q9 => q9.2.2.2.2 sl1 ksl1))
  have a17 : (zI s2 mm 13).toInt = (zI σ mm 13).toInt := by rw [(hTo.k t_mm (by decide)).eI hE (by decide) rfl]
  refine lv_istore (lv' := [(5, .int r3), (4, .int i), (3, .ref out), (2, .ref mm), (1, .ref x), (0, .ref b)]) hx hb dL_law_1389 hl (by decide) rfl (fun ls hl => ?_)
  refine lv_aload_n hx hb dL_law_1391 rfl (lv_at hl 3 rfl) ?_
  refine lv_aload_n hx hb dL_law_1392 rfl (lv_at hl 5 rfl) ?_
  refine lv_iload hx hb dL_law_1393 (lv_at hl 1 rfl) ?_
  refine lv_iconst (v := 1) hx hb dL_law_1395 (by decide) ?_
  refine lv_iadd hx hb dL_law_1396 ?_
  refine g_add (by omega) (by omega) (fun t18 ht18 => ?_)
  refine va_sld hx hb hXs hbl hbA hT.2.2.2 (g_in (by omega) (by omega)) dL_law_1397 ?_
  refine ti y1 (by rw [hy1]; exact congrArg xs (show t18.toNatClampNeg = ix i + 1 from by show t18.toInt.toNat = ix i + 1; unfold ix; omega)) ?_
  have hTo := hT
  refine tVv (n := 1) (As := [.int y1]) (rest := []) hx hb hml hown hg hT hK hX (X6s_restore l (kX κ) s2 mm y1 (hT.k t_mm (by decide)) R5) sub_gXs_fA (mwV k1690 k1691 k1692 k92 k1693) ⟨rfl, by decide, by decide, by decide +kernel⟩ ⟨(Nat.le_of_ble_eq_true rfl), (Nat.le_of_ble_eq_true rfl)⟩ (hT.o20 (hT.k t_mm (by decide))) rfl rfl hl.1 rfl (Nat.le_of_ble_eq_true rfl) dL_law_1398 zx (fun s19 H locs hφ hE hT => ?_)
  obtain ⟨f21, f22⟩ := hφ
  have a23 : (zI s19 tx 1).toInt = (zI s2 tx 1).toInt := by rw [(hTo.k ttx (by decide)).eI hE (by decide) rfl]
  have j24 : zI s19 rB = zI σ rB := ((show zI s19 rB = zI s2 rB from funext fun k => (hTo.k trB (by decide)).eI hE (by decide) rfl)).trans j7
  have j25 : zI s19 rT = zI σ rT := ((show zI s19 rT = zI s2 rT from funext fun k => (hTo.k trT (by decide)).eI hE (by decide) rfl)).trans j8
  have j26 : zI s19 rI = zI σ rI := ((show zI s19 rI = zI s2 rI from funext fun k => (hTo.k trI (by decide)).eI hE (by decide) rfl)).trans j9
  have j27 : zI s19 rK = zI σ rK := ((show zI s19 rK = zI s2 rK from funext fun k => (hTo.k trK (by decide)).eI hE (by decide) rfl)).trans j10
  have j28 : zI s19 tx 2 = zI σ tx 2 := ((hTo.k ttx (by decide)).eI hE (by decide) rfl).trans j11
  have j29 : zI s19 tx 3 = zI σ tx 3 := ((hTo.k ttx (by decide)).eI hE (by decide) rfl).trans j12
  have j30 : zI s19 mm 15 = zI σ mm 15 := ((hTo.k t_mm (by decide)).eI hE (by decide) rfl).trans j13
  have j31 : zI s19 mm 16 = zI σ mm 16 := ((hTo.k t_mm (by decide)).eI hE (by decide) rfl).trans j14
  have n32 : zI s19 nw 7 = zI s2 nw 7 ∧ zI s19 nw 8 = zI s2 nw 8 ∧ zI s19 nw 9 = zI s2 nw 9 := ⟨(hTo.k tnw (by decide)).eI hE (by decide) rfl, (hTo.k tnw (by decide)).eI hE (by decide) rfl, (hTo.k tnw (by decide)).eI hE (by decide) rfl⟩
  have n33 : zI s19 sl0 7 = zI s2 sl0 7 ∧ zI s19 sl0 8 = zI s2 sl0 8 ∧ zI s19 sl0 9 = zI s2 sl0 9 := ⟨(hTo.k tsl0 (by decide)).eI hE (by decide) rfl, (hTo.k tsl0 (by decide)).eI hE (by decide) rfl, (hTo.k tsl0 (by decide)).eI hE (by decide) rfl⟩
  have n34 : zI s19 sl0 7 = zI σ sl0 7 ∧ zI s19 sl0 8 = zI σ sl0 8 ∧ zI s19 sl0 9 = zI σ sl0 9 := ⟨n33.1.trans nz0.1, n33.2.1.trans nz0.2.1, n33.2.2.trans nz0.2.2⟩
  have n35 : zI s19 sl1 7 = zI s2 sl1 7 ∧ zI s19 sl1 8 = zI s2 sl1 8 ∧ zI s19 sl1 9 = zI s2 sl1 9 := ⟨(hTo.k tsl1 (by decide)).eI hE (by decide) rfl, (hTo.k tsl1 (by decide)).eI hE (by decide) rfl, (hTo.k tsl1 (by decide)).eI hE (by decide) rfl⟩
  have n36 : zI s19 sl1 7 = zI σ sl1 7 ∧ zI s19 sl1 8 = zI σ sl1 8 ∧ zI s19 sl1 9 = zI σ sl1 9 := ⟨n35.1.trans nz1.1, n35.2.1.trans nz1.2.1, n35.2.2.trans nz1.2.2⟩
  have n37 : zJ s19 rS = zJ σ rS := (show zJ s19 rS = zJ s2 rS from funext fun k => (hTo.k trS (by decide)).eJ hE (by decide) rfl).trans n16
  rw [show kR (kX κ) mm 4 = rK from erK] at f22
  have hk9 : 0 ≤ y1.toInt → y1.toInt ≤ 1 → zI σ rI (ix y1) = zI s2 rK (ix y1) := fun q8 q9 => by rw [j10]; exact hkp _ (by unfold ix; omega)
  rw [show kR (kX κ) mm 3 = rS from erS, show kR (kX κ) mm 1 = rW from erW] at f22
  have a38 : (zI s19 mm 13).toInt = (zI s2 mm 13).toInt := by rw [(hTo.k t_mm (by decide)).eI hE (by decide) rfl]
  refine lv_goto (tgt := 1404) hx hb dL_law_1401 (by decide) ?_
  have sl0f : zI s19 rI 0 ≠ 0 → SLT κ s19 x mm 0 := fun hq => (hsl 0 (by decide) (fun q9 => hq (by rw [erI] at q9; rw [j26]; exact q9))).tr (by rw [ers5, esl0]; exact n34) (fun j hj => by rw [erS, n37])
  have sl1f : zI s19 rI 1 ≠ 0 → SLT κ s19 x mm 1 := fun hq => (hsl 1 (by decide) (fun q9 => hq (by rw [erI] at q9; rw [j26]; exact q9))).tr (by rw [ers5, esl1]; exact n36) (fun j hj => by rw [erS, n37])
  have snf : SNW κ s19 x mm := by
    rcases f4 with ⟨c1, c2, c3, c4, c5, c6⟩ | ⟨c1, c2, c3⟩ | ⟨c1, c2, c3, c4, c5⟩ <;> rcases f22 with ⟨m1, m2, m3⟩ | ⟨m1, m2, m3, m4, m5⟩ | ⟨m1, m2, m3, m4, m5⟩
    · exfalso; omega
    · exact SNW.res (hsl (ix y1) (by unfold ix; omega) (by rw [erI]; exact c4)) (by rw [enw]; exact ⟨n32.1.trans c5.1, n32.2.1.trans c5.2.1, n32.2.2.trans c5.2.2⟩) (fun j hj => by rw [erW, erS]; exact ((m5 j hj).trans (congrFun n16 _)))
    · exact absurd ((hk9 c2 c3).trans m3) c4
    · exact hnw.tr (by rw [enw]; exact ⟨n32.1.trans (c3 nw knw).1, n32.2.1.trans (c3 nw knw).2.1, n32.2.2.trans (c3 nw knw).2.2⟩) (fun j hj => by rw [erW]; exact ((m3 j hj).trans (n15 j hj)))
    · exfalso; omega
    · exfalso; omega
    · exfalso; omega
    · exact absurd ((hk9 c2 c3).symm.trans c4) m3
    · exact hnw.tr (by rw [enw]; exact ⟨n32.1.trans (c5 nw knw).1, n32.2.1.trans (c5 nw knw).2.1, n32.2.2.trans (c5 nw knw).2.2⟩) (fun j hj => by rw [erW]; exact ((m5 j hj).trans (n15 j hj)))
  exact KK s19 _ _ _ hT f21 ⟨by rw [etx]; omega, ⟨by rw [etx, erB, erT, j24, j25]; exact tal_less hal (by omega), by rw [erT, j25]; exact tnn_less hnn (by omega)⟩, ⟨by rw [etx, j28, j30]; exact hco, by rw [etx, j29, j31]; exact hpo⟩, fun i hi => by rw [erI, erK, j26, j27]; exact hkp i hi⟩ (⟨snf, fun i hi => (show i = 0 ∨ i = 1 by omega).elim (fun e9 => by rw [e9, erI]; exact sl0f) (fun e9 => by rw [e9, erI]; exact sl1f)⟩) (lv_sub hl [1, 2, 3, 4, 5] rfl)
