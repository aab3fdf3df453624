set_option maxHeartbeats 4000000 in
set_option maxRecDepth 100000 in
theorem law_0_0 {p : Program} {e : Env} {s : State} {m : MethodId} {below : List Frame} {meth : Method} {c : Code} (l : Launch) (hlt : l.stackTraces = false) {b : Nat} {xs : Nat → Int32} (hx : p.tables.exec = Jvm.exec) (hb : c.code = cL_law) (hml : c.maxLocals = 9) (hown : s.vm.findClass RL = some m.cls) (hg : ∀ w ∈ GW, w.before #[Value.ref b] s = true) (hXs : va_X b 6 xs s s.heap) (hbl : b < s.heap.size) (D : va_G) {A : Nat → Prop} (hA : ∀ q, s.heap.size ≤ q → A q) (hbA : ¬ A b) (hX : XX A s s.heap) (Q : State → Prop) (h0 : Nat) (h1 : Nat) (h2 : Nat) (h3 : Nat) (h4 : Nat) (h5 : Nat) (v0 : Value) (v1 : Value) (v2 : Value) (v3 : Value) (v4 : Value) (v5 : Value) (v6 : Value) (v7 : Value) (v8 : Value) (v9 : Value) (v10 : Value) (v11 : Value) (v12 : Value) (v13 : Value) (v14 : Value) (f0 : Nat → Int32) (v15 : Value) (v16 : Value) (v17 : Value) (v18 : Value) (v19 : Value) (v20 : Value) (v21 : Value) (v22 : Value) (v23 : Value) (v24 : Value) (v25 : Value) (v26 : Value) (v27 : Value) (v28 : Value) (v29 : Value) (v30 : Value) (v31 : Value) (v32 : Value) (v33 : Value) (v34 : Value) (v35 : Value) (v36 : Value) (v37 : Value) (v38 : Value) (v39 : Value) (f1 : Nat → Int32) (a0 : ClassId) (a1 : ClassId)  (p1 : Int32) (e1 : xs 1 = p1) (bl1 : (-2147483648) ≤ p1.toInt) (bh1 : p1.toInt ≤ 2147483647) (p2 : Int32) (e2 : xs 2 = p2) (bl2 : (-2147483648) ≤ p2.toInt) (bh2 : p2.toInt ≤ 2147483647) (p3 : Int32) (e3 : xs 3 = p3) (bl3 : (-2147483648) ≤ p3.toInt) (bh3 : p3.toInt ≤ 2147483647) (p4 : Int32) (e4 : xs 4 = p4) (bl4 : (-2147483648) ≤ p4.toInt) (bh4 : p4.toInt ≤ 2147483647) (p5 : Int32) (e5 : xs 5 = p5) (bl5 : (-2147483648) ≤ p5.toInt) (bh5 : p5.toInt ≤ 2147483647) {H : Heap} {locs : List Loc} {ls : Array Slot} (hP : va_P D vwCl [(h0, .inr (5, [.ref h1, v0, v1, v2, v3, v4, v5, v6, v7, v8])), (h1, .inr (3, [.ref h2, .int 0, v9, v10, v11, v12, v13, v14])), (h2, .inl (a0, 700, .inl f0)), (h3, .inr (6, [v15, v16, v17, v18, v19, v20, v21, v22, v23, v24, v25, v26, .ref h4, .int 0, v27, v28, v29, v30, v31, v32, v33, v34, v35, v36, v37, v38, v39])), (h4, .inl (a1, 700, .inl f1))] H) (hD : va_D A [(h0, .inr (5, [.ref h1, v0, v1, v2, v3, v4, v5, v6, v7, v8])), (h1, .inr (3, [.ref h2, .int 0, v9, v10, v11, v12, v13, v14])), (h2, .inl (a0, 700, .inl f0)), (h3, .inr (6, [v15, v16, v17, v18, v19, v20, v21, v22, v23, v24, v25, v26, .ref h4, .int 0, v27, v28, v29, v30, v31, v32, v33, v34, v35, v36, v37, v38, v39])), (h4, .inl (a1, 700, .inl f1))]) (hK : va_K D vwCl [(a0, .byte), (a1, .int)] s) (hS : va_S A s.heap H locs) (hl : lv_has ls 9 [(4, .int 0), (3, .ref h5), (2, .ref h3), (1, .ref h0), (0, .ref b)]) (kk : ∀ (H : Heap) (locs : List Loc) (ls : Array Slot), va_S A s.heap H locs → lv_has ls 9 [(4, .int 0), (0, .ref b)] → W p l e room_1 s m #[Value.ref b] below meth c H locs 3000 30000 Q (F0 m 2199 ls [])) : W p l e room_1 s m #[Value.ref b] below meth c H locs 1010 8898 Q (F0 m 220 ls []) := by
  refine lv_aload_n hx hb dL_law_220 rfl (lv_at hl 3 rfl) ?_
  refine lv_aload_n hx hb dL_law_221 rfl (lv_at hl 4 rfl) ?_
  refine lv_iload hx hb dL_law_222 (lv_at hl 0 rfl) ?_
  refine lv_iconst (v := 1) hx hb dL_law_224 (by decide) ?_
  refine lv_iadd hx hb dL_law_225 ?_
  refine ti (1) (by decide) ?_
  refine va_sld hx hb hXs hbl hbA hS (vin (by decide)) dL_law_226 ?_
  refine ti p1 e1 ?_
  refine lv_aload_n hx hb dL_law_227 rfl (lv_at hl 4 rfl) ?_
  refine lv_iload hx hb dL_law_228 (lv_at hl 0 rfl) ?_
  refine lv_iconst (v := 2) hx hb dL_law_230 (by decide) ?_
  refine lv_iadd hx hb dL_law_231 ?_
  refine ti (2) (by decide) ?_
  refine va_sld hx hb hXs hbl hbA hS (vin (by decide)) dL_law_232 ?_
  refine ti p2 e2 ?_
  refine lv_aload_n hx hb dL_law_233 rfl (lv_at hl 4 rfl) ?_
  refine lv_iload hx hb dL_law_234 (lv_at hl 0 rfl) ?_
  refine lv_iconst (v := 3) hx hb dL_law_236 (by decide) ?_
  refine lv_iadd hx hb dL_law_237 ?_
  refine ti (3) (by decide) ?_
  refine va_sld hx hb hXs hbl hbA hS (vin (by decide)) dL_law_238 ?_
  refine ti p3 e3 ?_
  refine lv_aload_n hx hb dL_law_239 rfl (lv_at hl 4 rfl) ?_
  refine lv_iload hx hb dL_law_240 (lv_at hl 0 rfl) ?_
  refine lv_iconst (v := 4) hx hb dL_law_242 (by decide) ?_
  refine lv_iadd hx hb dL_law_243 ?_
  refine ti (4) (by decide) ?_
  refine va_sld hx hb hXs hbl hbA hS (vin (by decide)) dL_law_244 ?_
  refine ti p4 e4 ?_
  refine lv_aload_n hx hb dL_law_245 rfl (lv_at hl 4 rfl) ?_
  refine lv_iload hx hb dL_law_246 (lv_at hl 0 rfl) ?_
  refine lv_iconst (v := 5) hx hb dL_law_248 (by decide) ?_
  refine lv_iadd hx hb dL_law_249 ?_
  refine ti (5) (by decide) ?_
  refine va_sld hx hb hXs hbl hbA hS (vin (by decide)) dL_law_250 ?_
  refine ti p5 e5 ?_
  refine cVi (n := 5) (As := [.int p1, .int p2, .int p3, .int p4, .int p5]) (rest := []) (wr := [(h3, .inr (6, [v15, v16, v17, v18, v19, v20, v21, v22, v23, v24, v25, v26, .ref h4, .int 0, v27, v28, v29, v30, v31, v32, v33, v34, v35, v36, v37, v38, v39])), (h4, .inl (a1, 700, .inl f1))]) (tr := [(a1, .int)]) hx hb hml hown hg okN (cX5_append_299 l D h0 p1 p2 p3 p4 p5 h1 h2 v0 v1 v2 v3 v4 v5 v6 v7 v8 v9 v10 v11 v12 v13 v14 f0 a0) (mwV k411 k412 k413 k84 k414) ⟨rfl, by decide, by decide, by decide +kernel⟩ ⟨rfl, rfl, (Nat.le_of_ble_eq_true rfl), (Nat.le_of_ble_eq_true rfl)⟩ hP hD hK hS xn [0, 1, 2] [0, 1, 2] [3, 4] [0] [1] rfl (by decide) rfl rfl (by decide) (by decide) rfl rfl (va_free hD hS hA [0, 1, 2] rfl) (va_free hD hS hA [0, 1, 2] rfl) 0 rfl rfl rfl hl.1 rfl (Nat.le_of_ble_eq_true rfl) dL_law_251 ⟨(Nat.le_of_ble_eq_true rfl), (Nat.le_of_ble_eq_true rfl)⟩ (fun u H locs hφ hP hD hK hS hk => ?_)
  obtain ⟨y0_1, rfl⟩ : ∃ z, z = u := ⟨_, rfl⟩
  have hP : va_P D vwCl [(h3, .inr (6, [v15, v16, v17, v18, v19, v20, v21, v22, v23, v24, v25, v26, .ref h4, .int 0, v27, v28, v29, v30, v31, v32, v33, v34, v35, v36, v37, v38, v39])), (h4, .inl (a1, 700, .inl f1)), (h0, .inr (5, [.ref h1, v0, v1, v2, v3, v4, v5, v6, v7, v8])), (h1, .inr (3, [.ref h2, .int 20, v9, v10, v11, v12, v13, v14])), (h2, .inl (a0, 700, .inl y0_1))] H := hP
  have hD : va_D A [(h3, .inr (6, [v15, v16, v17, v18, v19, v20, v21, v22, v23, v24, v25, v26, .ref h4, .int 0, v27, v28, v29, v30, v31, v32, v33, v34, v35, v36, v37, v38, v39])), (h4, .inl (a1, 700, .inl f1)), (h0, .inr (5, [.ref h1, v0, v1, v2, v3, v4, v5, v6, v7, v8])), (h1, .inr (3, [.ref h2, .int 20, v9, v10, v11, v12, v13, v14])), (h2, .inl (a0, 700, .inl y0_1))] := hD
  have hK : va_K D vwCl [(a1, .int), (a0, .byte)] s := hK
  refine W.widen (k := 1010) (n := 8898) (Nat.le_of_ble_eq_true rfl) (Nat.le_of_ble_eq_true rfl) ?_
  refine lv_aload_n hx hb dL_law_254 rfl (lv_at hl 2 rfl) ?_
  refine lv_aload_n hx hb dL_law_255 rfl (lv_at hl 4 rfl) ?_
  refine lv_iload hx hb dL_law_256 (lv_at hl 0 rfl) ?_
  refine lv_iconst (v := 1) hx hb dL_law_258 (by decide) ?_
  refine lv_iadd hx hb dL_law_259 ?_
  refine ti (1) (by decide) ?_
  refine va_sld hx hb hXs hbl hbA hS (vin (by decide)) dL_law_260 ?_
  refine ti p1 e1 ?_
  refine lv_aload_n hx hb dL_law_261 rfl (lv_at hl 4 rfl) ?_
  refine lv_iload hx hb dL_law_262 (lv_at hl 0 rfl) ?_
  refine lv_iconst (v := 2) hx hb dL_law_264 (by decide) ?_
  refine lv_iadd hx hb dL_law_265 ?_
  refine ti (2) (by decide) ?_
  refine va_sld hx hb hXs hbl hbA hS (vin (by decide)) dL_law_266 ?_
  refine ti p2 e2 ?_
  refine lv_aload_n hx hb dL_law_267 rfl (lv_at hl 4 rfl) ?_
  refine lv_iload hx hb dL_law_268 (lv_at hl 0 rfl) ?_
  refine lv_iconst (v := 3) hx hb dL_law_270 (by decide) ?_
  refine lv_iadd hx hb dL_law_271 ?_
  refine ti (3) (by decide) ?_
  refine va_sld hx hb hXs hbl hbA hS (vin (by decide)) dL_law_272 ?_
  refine ti p3 e3 ?_
  refine lv_aload_n hx hb dL_law_273 rfl (lv_at hl 4 rfl) ?_
  refine lv_iload hx hb dL_law_274 (lv_at hl 0 rfl) ?_
  refine lv_iconst (v := 4) hx hb dL_law_276 (by decide) ?_
  refine lv_iadd hx hb dL_law_277 ?_
  refine ti (4) (by decide) ?_
  refine va_sld hx hb hXs hbl hbA hS (vin (by decide)) dL_law_278 ?_
  refine ti p4 e4 ?_
  refine lv_aload_n hx hb dL_law_279 rfl (lv_at hl 4 rfl) ?_
  refine lv_iload hx hb dL_law_280 (lv_at hl 0 rfl) ?_
  refine lv_iconst (v := 5) hx hb dL_law_282 (by decide) ?_
  refine lv_iadd hx hb dL_law_283 ?_
  refine ti (5) (by decide) ?_
  refine va_sld hx hb hXs hbl hbA hS (vin (by decide)) dL_law_284 ?_
  refine ti p5 e5 ?_
  refine cVi (n := 5) (As := [.int p1, .int p2, .int p3, .int p4, .int p5]) (rest := [.int 20]) (wr := [(h0, .inr (5, [.ref h1, v0, v1, v2, v3, v4, v5, v6, v7, v8])), (h1, .inr (3, [.ref h2, .int 20, v9, v10, v11, v12, v13, v14])), (h2, .inl (a0, 700, .inl y0_1))]) (tr := [(a0, .byte)]) hx hb hml hown hg okN (cX6_append_2 l D h3 p1 p2 p3 p4 p5 h4 v15 v16 v17 v18 v19 v20 v21 v22 v23 v24 v25 v26 v27 v28 v29 v30 v31 v32 v33 v34 v35 v36 v37 v38 v39 f1 a1) (mwV k1305 k1306 k1307 k92 k1308) ⟨rfl, by decide, by decide, by decide +kernel⟩ ⟨rfl, rfl, (Nat.le_of_ble_eq_true rfl), (Nat.le_of_ble_eq_true rfl)⟩ hP hD hK hS xn [0, 1] [0, 1] [2, 3, 4] [0] [1] rfl (by decide) rfl rfl (by decide) (by decide) rfl rfl (va_free hD hS hA [0, 1] rfl) (va_free hD hS hA [0, 1] rfl) 0 rfl rfl rfl hl.1 rfl (Nat.le_of_ble_eq_true rfl) dL_law_285 ⟨(Nat.le_of_ble_eq_true rfl), (Nat.le_of_ble_eq_true rfl)⟩ (fun u H locs hφ hP hD hK hS hk => ?_)
  obtain ⟨y0_2, rfl⟩ : ∃ z, z = u := ⟨_, rfl⟩
  have hP : va_P D vwCl [(h0, .inr (5, [.ref h1, v0, v1, v2, v3, v4, v5, v6, v7, v8])), (h1, .inr (3, [.ref h2, .int 20, v9, v10, v11, v12, v13, v14])), (h2, .inl (a0, 700, .inl y0_1)), (h3, .inr (6, [.int 0, v16, v17, v18, v19, v20, v21, v22, v23, v24, v25, v26, .ref h4, .int 20, v27, v28, v29, v30, v31, v32, v33, v34, v35, v36, v37, v38, v39])), (h4, .inl (a1, 700, .inl y0_2))] H := hP
  have hD : va_D A [(h0, .inr (5, [.ref h1, v0, v1, v2, v3, v4, v5, v6, v7, v8])), (h1, .inr (3, [.ref h2, .int 20, v9, v10, v11, v12, v13, v14])), (h2, .inl (a0, 700, .inl y0_1)), (h3, .inr (6, [.int 0, v16, v17, v18, v19, v20, v21, v22, v23, v24, v25, v26, .ref h4, .int 20, v27, v28, v29, v30, v31, v32, v33, v34, v35, v36, v37, v38, v39])), (h4, .inl (a1, 700, .inl y0_2))] := hD
  have hK : va_K D vwCl [(a0, .byte), (a1, .int)] s := hK
  refine W.widen (k := 1010) (n := 8898) (Nat.le_of_ble_eq_true rfl) (Nat.le_of_ble_eq_true rfl) ?_
  refine lv_icmp_eq (tgt := 2199) hx hb dL_law_288 (by decide) (fun _ => ?_) (fun c9 => absurd (by decide) c9)
  refine W.widen (k := 3000) (n := 30000) (Nat.le_of_ble_eq_true rfl) (Nat.le_of_ble_eq_true rfl) ?_
  exact kk _ _ _ hS (lv_sub hl [0, 4] rfl)
set_option maxHeartbeats 4000000 in
set_option maxRecDepth 100000 in
theorem law_1_0 {p : Program} {e : Env} {s : State} {m : MethodId} {below : List Frame} {meth : Method} {c : Code} (l : Launch) (hlt : l.stackTraces = false) {b : Nat} {xs : Nat → Int32} (hx : p.tables.exec = Jvm.exec) (hb : c.code = cL_law) (hml : c.maxLocals = 9) (hown : s.vm.findClass RL = some m.cls) (hg : ∀ w ∈ GW, w.before #[Value.ref b] s = true) (hXs : va_X b 6 xs s s.heap) (hbl : b < s.heap.size) (D : va_G) {A : Nat → Prop} (hA : ∀ q, s.heap.size ≤ q → A q) (hbA : ¬ A b) (hX : XX A s s.heap) (Q : State → Prop) (h0 : Nat) (h1 : Nat) (h2 : Nat) (h3 : Nat) (v0 : Value) (v1 : Value) (v2 : Value) (v3 : Value) (v4 : Value) (v5 : Value) (v6 : Value) (v7 : Value) (v8 : Value) (v9 : Value) (v10 : Value) (v11 : Value) (v12 : Value) (v13 : Value) (v14 : Value) (v15 : Value) (v16 : Value) (v17 : Value) (v18 : Value) (v19 : Value) (v20 : Value) (v21 : Value) (v22 : Value) (v23 : Value) (v24 : Value) (v25 : Value) (v26 : Value) (v27 : Value) (v28 : Value) (v29 : Value) (v30 : Value) (v31 : Value) (v32 : Value) (v33 : Value) (v34 : Value) (v35 : Value) (v36 : Value) (v37 : Value) (v38 : Value) (v39 : Value) (v40 : Value) (v41 : Value)  (p1 : Int32) (e1 : xs 1 = p1) (bl1 : (-2147483648) ≤ p1.toInt) (bh1 : p1.toInt ≤ (-1)) {H : Heap} {locs : List Loc} {ls : Array Slot} (hP : va_P D vwCl [(h0, .inr (5, [.ref h1, v0, v1, v2, v3, v4, v5, v6, v7, v8])), (h1, .inr (3, [v9, .int 0, v10, v11, v12, v13, v14, v15])), (h2, .inr (6, [v16, v17, v18, v19, v20, v21, v22, v23, v24, v25, v26, v27, v28, .int 0, v29, v30, v31, v32, v33, v34, v35, v36, v37, v38, v39, v40, v41]))] H) (hD : va_D A [(h0, .inr (5, [.ref h1, v0, v1, v2, v3, v4, v5, v6, v7, v8])), (h1, .inr (3, [v9, .int 0, v10, v11, v12, v13, v14, v15])), (h2, .inr (6, [v16, v17, v18, v19, v20, v21, v22, v23, v24, v25, v26, v27, v28, .int 0, v29, v30, v31, v32, v33, v34, v35, v36, v37, v38, v39, v40, v41]))]) (hK : va_K D vwCl [] s) (hS : va_S A s.heap H locs) (hl : lv_has ls 9 [(4, .int 0), (3, .ref h3), (2, .ref h2), (1, .ref h0), (0, .ref b)]) (kk : ∀ (H : Heap) (locs : List Loc) (ls : Array Slot), va_S A s.heap H locs → lv_has ls 9 [(4, .int 0), (0, .ref b)] → W p l e room_1 s m #[Value.ref b] below meth c H locs 3000 30000 Q (F0 m 2199 ls [])) : W p l e room_1 s m #[Value.ref b] below meth c H locs 1010 8898 Q (F0 m 293 ls []) := by
  have d0 : p1 < 0 := i_lt (by have h0 : (0 : Int32).toInt = 0 := (by decide); omega)
  have d1 : (lg_cmp p1.toInt64 0) < 0 := lgq1 (by have h0 : (0 : Int64).toInt = 0 := (by decide); have hp1 := i2lI p1; omega)
  refine lv_aload_n hx hb dL_law_293 rfl (lv_at hl 3 rfl) ?_
  refine lv_aload_n hx hb dL_law_294 rfl (lv_at hl 4 rfl) ?_
  refine lv_iload hx hb dL_law_295 (lv_at hl 0 rfl) ?_
  refine lv_iconst (v := 1) hx hb dL_law_297 (by decide) ?_
  refine lv_iadd hx hb dL_law_298 ?_
  refine ti (1) (by decide) ?_
  refine va_sld hx hb hXs hbl hbA hS (vin (by decide)) dL_law_299 ?_
  refine ti p1 e1 ?_
  refine lv_aload_n hx hb dL_law_300 rfl (lv_at hl 1 rfl) ?_
  refine cHi (n := 3) (As := [.ref h0, .int p1, .ref h3]) (rest := []) (wr := [(h0, .inr (5, [.ref h1, v0, v1, v2, v3, v4, v5, v6, v7, v8])), (h1, .inr (3, [v9, .int 0, v10, v11, v12, v13, v14, v15])), (h2, .inr (6, [v16, v17, v18, v19, v20, v21, v22, v23, v24, v25, v26, v27, v28, .int 0, v29, v30, v31, v32, v33, v34, v35, v36, v37, v38, v39, v40, v41]))]) (tr := []) hx hb hml hown hg okXX (cL_truncate_600 l D hlt h0 p1 h3 h1 v0 v1 v2 v3 v4 v5 v6 v7 v8 v9 v10 v11 v12 v13 v14 v15 d0) (mwHS k602 k603 k83 k604) ⟨by decide, by decide, by decide +kernel⟩ ⟨rfl, rfl, (Nat.le_of_ble_eq_true rfl), (Nat.le_of_ble_eq_true rfl)⟩ hP hD hK hS (okXX.2.2 _ _ _ _ hS.2.1 hX) [0, 1] [] [0, 1, 2] [] [] rfl (by decide) rfl rfl (by decide) (by decide) rfl rfl (aNil hA hS) (aNil hA hS) rfl hl.1 rfl (Nat.le_of_ble_eq_true rfl) dL_law_301 ⟨(Nat.le_of_ble_eq_true rfl), (Nat.le_of_ble_eq_true rfl)⟩ (fun u H locs hφ hP hD hK hS hk => ?_)
  have hP : va_P D vwCl [(h0, .inr (5, [.ref h1, v0, v1, v2, v3, v4, v5, v6, v7, v8])), (h1, .inr (3, [v9, .int 0, v10, v11, v12, v13, v14, v15])), (h2, .inr (6, [v16, v17, v18, v19, v20, v21, v22, v23, v24, v25, v26, v27, v28, .int 0, v29, v30, v31, v32, v33, v34, v35, v36, v37, v38, v39, v40, v41]))] H := hP
  have hD : va_D A [(h0, .inr (5, [.ref h1, v0, v1, v2, v3, v4, v5, v6, v7, v8])), (h1, .inr (3, [v9, .int 0, v10, v11, v12, v13, v14, v15])), (h2, .inr (6, [v16, v17, v18, v19, v20, v21, v22, v23, v24, v25, v26, v27, v28, .int 0, v29, v30, v31, v32, v33, v34, v35, v36, v37, v38, v39, v40, v41]))] := hD
  have hK : va_K D vwCl [] s := hK
  refine W.widen (k := 1011) (n := 8904) (Nat.le_of_ble_eq_true rfl) (Nat.le_of_ble_eq_true rfl) ?_
  refine lv_istore (lv' := [(5, .int 1), (4, .int 0), (3, .ref h3), (2, .ref h2), (1, .ref h0), (0, .ref b)]) hx hb dL_law_304 hl (by decide) rfl (fun ls hl => ?_)
  refine lv_aload_n hx hb dL_law_306 rfl (lv_at hl 3 rfl) ?_
  refine lv_aload_n hx hb dL_law_307 rfl (lv_at hl 5 rfl) ?_
  refine lv_iload hx hb dL_law_308 (lv_at hl 1 rfl) ?_
  refine lv_iconst (v := 1) hx hb dL_law_310 (by decide) ?_
  refine lv_iadd hx hb dL_law_311 ?_
  refine ti (1) (by decide) ?_
  refine va_sld hx hb hXs hbl hbA hS (vin (by decide)) dL_law_312 ?_
  refine ti p1 e1 ?_
  refine cVi (n := 1) (As := [.int p1]) (rest := []) (wr := [(h0, .inr (5, [.ref h1, v0, v1, v2, v3, v4, v5, v6, v7, v8])), (h1, .inr (3, [v9, .int 0, v10, v11, v12, v13, v14, v15]))]) (tr := []) hx hb hml hown hg okN (cX6_truncate_8 l D h2 p1 v16 v17 v18 v19 v20 v21 v22 v23 v24 v25 v26 v27 v28 v29 v30 v31 v32 v33 v34 v35 v36 v37 v38 v39 v40 v41 d1) (mwV k1313 k1314 k1315 k92 k1316) ⟨rfl, by decide, by decide, by decide +kernel⟩ ⟨rfl, rfl, (Nat.le_of_ble_eq_true rfl), (Nat.le_of_ble_eq_true rfl)⟩ hP hD hK hS xn [2] [2] [0, 1] [] [] rfl (by decide) rfl rfl (by decide) (by decide) rfl rfl (va_free hD hS hA [2] rfl) (va_free hD hS hA [2] rfl) 2 rfl rfl rfl hl.1 rfl (Nat.le_of_ble_eq_true rfl) dL_law_313 ⟨(Nat.le_of_ble_eq_true rfl), (Nat.le_of_ble_eq_true rfl)⟩ (fun u H locs hφ hP hD hK hS hk => ?_)
  have hP : va_P D vwCl [(h0, .inr (5, [.ref h1, v0, v1, v2, v3, v4, v5, v6, v7, v8])), (h1, .inr (3, [v9, .int 0, v10, v11, v12, v13, v14, v15])), (h2, .inr (6, [.int 1, v17, v18, v19, v20, v21, v22, v23, v24, v25, v26, v27, v28, .int 0, v29, v30, v31, v32, v33, v34, v35, v36, v37, v38, v39, v40, v41]))] H := hP
  have hD : va_D A [(h0, .inr (5, [.ref h1, v0, v1, v2, v3, v4, v5, v6, v7, v8])), (h1, .inr (3, [v9, .int 0, v10, v11, v12, v13, v14, v15])), (h2, .inr (6, [.int 1, v17, v18, v19, v20, v21, v22, v23, v24, v25, v26, v27, v28, .int 0, v29, v30, v31, v32, v33, v34, v35, v36, v37, v38, v39, v40, v41]))] := hD
  have hK : va_K D vwCl [] s := hK
  refine W.widen (k := 1011) (n := 8904) (Nat.le_of_ble_eq_true rfl) (Nat.le_of_ble_eq_true rfl) ?_
  refine lv_istore (lv' := [(6, .int 0), (5, .int 1), (4, .int 0), (3, .ref h3), (2, .ref h2), (1, .ref h0), (0, .ref b)]) hx hb dL_law_316 hl (by decide) rfl (fun ls hl => ?_)
  refine lv_aload_n hx hb dL_law_318 rfl (lv_at hl 4 rfl) ?_
  refine cVi (n := 0) (As := []) (rest := []) (wr := [(h0, .inr (5, [.ref h1, v0, v1, v2, v3, v4, v5, v6, v7, v8])), (h1, .inr (3, [v9, .int 0, v10, v11, v12, v13, v14, v15])), (h2, .inr (6, [.int 1, v17, v18, v19, v20, v21, v22, v23, v24, v25, v26, v27, v28, .int 0, v29, v30, v31, v32, v33, v34, v35, v36, v37, v38, v39, v40, v41]))]) (tr := []) hx hb hml hown hg okN (cX6_thrown_601 l D h2 v17 v18 v19 v20 v21 v22 v23 v24 v25 v26 v27 v28 (.int 0) v29 v30 v31 v32 v33 v34 v35 v36 v37 v38 v39 v40 v41) (mwV k1301 k1302 k1303 k92 k1304) ⟨rfl, by decide, by decide, by decide +kernel⟩ ⟨rfl, rfl, (Nat.le_of_ble_eq_true rfl), (Nat.le_of_ble_eq_true rfl)⟩ hP hD hK hS xn [2] [] [0, 1, 2] [] [] rfl (by decide) rfl rfl (by decide) (by decide) rfl rfl (aNil hA hS) (aNil hA hS) 2 rfl rfl rfl hl.1 rfl (Nat.le_of_ble_eq_true rfl) dL_law_319 ⟨(Nat.le_of_ble_eq_true rfl), (Nat.le_of_ble_eq_true rfl)⟩ (fun u H locs hφ hP hD hK hS hk => ?_)
  have hP : va_P D vwCl [(h0, .inr (5, [.ref h1, v0, v1, v2, v3, v4, v5, v6, v7, v8])), (h1, .inr (3, [v9, .int 0, v10, v11, v12, v13, v14, v15])), (h2, .inr (6, [.int 1, v17, v18, v19, v20, v21, v22, v23, v24, v25, v26, v27, v28, .int 0, v29, v30, v31, v32, v33, v34, v35, v36, v37, v38, v39, v40, v41]))] H := hP
  have hD : va_D A [(h0, .inr (5, [.ref h1, v0, v1, v2, v3, v4, v5, v6, v7, v8])), (h1, .inr (3, [v9, .int 0, v10, v11, v12, v13, v14, v15])), (h2, .inr (6, [.int 1, v17, v18, v19, v20, v21, v22, v23, v24, v25, v26, v27, v28, .int 0, v29, v30, v31, v32, v33, v34, v35, v36, v37, v38, v39, v40, v41]))] := hD
  have hK : va_K D vwCl [] s := hK
  refine W.widen (k := 1011) (n := 8904) (Nat.le_of_ble_eq_true rfl) (Nat.le_of_ble_eq_true rfl) ?_
  refine lv_iload hx hb dL_law_322 (lv_at hl 1 rfl) ?_
  refine lv_icmp_eq (tgt := 329) hx hb dL_law_324 (by decide) (fun _ => ?_) (fun c9 => absurd (by decide) c9)
  refine lv_iload hx hb dL_law_329 (lv_at hl 1 rfl) ?_
  refine lv_if_ne (tgt := 346) hx hb dL_law_331 (by decide) (fun _ => ?_) (fun c9 => absurd c9 (by decide))
  refine lv_goto (tgt := 2199) hx hb dL_law_346 (by decide) ?_
  refine W.widen (k := 3000) (n := 30000) (Nat.le_of_ble_eq_true rfl) (Nat.le_of_ble_eq_true rfl) ?_
  exact kk _ _ _ hS (lv_sub hl [2, 6] rfl)
set_option maxHeartbeats 4000000 in
set_option maxRecDepth 100000 in
theorem law_1_1 {p : Program} {e : Env} {s : State} {m : MethodId} {below : List Frame} {meth : Method} {c : Code} (l : Launch) (hlt : l.stackTraces = false) {b : Nat} {xs : Nat → Int32} (hx : p.tables.exec = Jvm.exec) (hb : c.code = cL_law) (hml : c.maxLocals = 9) (hown : s.vm.findClass RL = some m.cls) (hg : ∀ w ∈ GW, w.before #[Value.ref b] s = true) (hXs : va_X b 6 xs s s.heap) (hbl : b < s.heap.size) (D : va_G) {A : Nat → Prop} (hA : ∀ q, s.heap.size ≤ q → A q) (hbA : ¬ A b) (hX : XX A s s.heap) (Q : State → Prop) (h0 : Nat) (h1 : Nat) (h2 : Nat) (h3 : Nat) (v0 : Value) (v1 : Value) (v2 : Value) (v3 : Value) (v4 : Value) (v5 : Value) (v6 : Value) (v7 : Value) (v8 : Value) (v9 : Value) (v10 : Value) (v11 : Value) (v12 : Value) (v13 : Value) (v14 : Value) (v15 : Value) (f0 : Nat → Int64) (v16 : Value) (v17 : Value) (v18 : Value) (v19 : Value) (v20 : Value) (v21 : Value) (v22 : Value) (v23 : Value) (v24 : Value) (v25 : Value) (v26 : Value) (v27 : Value) (v28 : Value) (v29 : Value) (v30 : Value) (v31 : Value) (v32 : Value) (v33 : Value) (v34 : Value) (v35 : Value) (v36 : Value) (v37 : Value) (v38 : Value) (v39 : Value) (v40 : Value) (v41 : Value) (a0 : ClassId)  (e1 : xs 1 = 0) {H : Heap} {locs : List Loc} {ls : Array Slot} (hP : va_P D vwCl [(h0, .inr (5, [.ref h1, v0, v1, v2, v3, v4, v5, v6, v7, v8])), (h1, .inr (3, [v9, .int 0, v10, v11, v12, v13, v14, v15])), (h2, .inl (a0, 1, .inr (.inl f0))), (h3, .inr (6, [v16, v17, v18, v19, v20, v21, v22, v23, v24, v25, v26, v27, v28, .int 0, v29, v30, v31, v32, v33, v34, v35, v36, v37, v38, v39, v40, v41]))] H) (hD : va_D A [(h0, .inr (5, [.ref h1, v0, v1, v2, v3, v4, v5, v6, v7, v8])), (h1, .inr (3, [v9, .int 0, v10, v11, v12, v13, v14, v15])), (h2, .inl (a0, 1, .inr (.inl f0))), (h3, .inr (6, [v16, v17, v18, v19, v20, v21, v22, v23, v24, v25, v26, v27, v28, .int 0, v29, v30, v31, v32, v33, v34, v35, v36, v37, v38, v39, v40, v41]))]) (hK : va_K D vwCl [(a0, .long)] s) (hS : va_S A s.heap H locs) (hl : lv_has ls 9 [(4, .int 0), (3, .ref h2), (2, .ref h3), (1, .ref h0), (0, .ref b)]) (kk : ∀ (H : Heap) (locs : List Loc) (ls : Array Slot), va_S A s.heap H locs → lv_has ls 9 [(4, .int 0), (0, .ref b)] → W p l e room_1 s m #[Value.ref b] below meth c H locs 3000 30000 Q (F0 m 2199 ls [])) : W p l e room_1 s m #[Value.ref b] below meth c H locs 1010 8898 Q (F0 m 293 ls []) := by
  refine lv_aload_n hx hb dL_law_293 rfl (lv_at hl 3 rfl) ?_
  refine lv_aload_n hx hb dL_law_294 rfl (lv_at hl 4 rfl) ?_
  refine lv_iload hx hb dL_law_295 (lv_at hl 0 rfl) ?_
  refine lv_iconst (v := 1) hx hb dL_law_297 (by decide) ?_
  refine lv_iadd hx hb dL_law_298 ?_
  refine ti (1) (by decide) ?_
  refine va_sld hx hb hXs hbl hbA hS (vin (by decide)) dL_law_299 ?_
  refine ti 0 e1 ?_
  refine lv_aload_n hx hb dL_law_300 rfl (lv_at hl 1 rfl) ?_
  refine cHi (n := 3) (As := [.ref h0, .int 0, .ref h2]) (rest := []) (wr := [(h3, .inr (6, [v16, v17, v18, v19, v20, v21, v22, v23, v24, v25, v26, v27, v28, .int 0, v29, v30, v31, v32, v33, v34, v35, v36, v37, v38, v39, v40, v41]))]) (tr := []) hx hb hml hown hg okN (cL_truncate_602 l D h0 h2 h1 v0 v1 v2 v3 v4 v5 v6 v7 v8 f0 v9 v10 v11 v12 v13 v14 v15 a0) (mwHS k602 k603 k83 k604) ⟨by decide, by decide, by decide +kernel⟩ ⟨rfl, rfl, (Nat.le_of_ble_eq_true rfl), (Nat.le_of_ble_eq_true rfl)⟩ hP hD hK hS xn [0, 2, 1] [0, 2, 1] [3] [0] [] rfl (by decide) rfl rfl (by decide) (by decide) rfl rfl (va_free hD hS hA [0, 2, 1] rfl) (va_free hD hS hA [0, 2, 1] rfl) rfl hl.1 rfl (Nat.le_of_ble_eq_true rfl) dL_law_301 ⟨(Nat.le_of_ble_eq_true rfl), (Nat.le_of_ble_eq_true rfl)⟩ (fun u H locs hφ hP hD hK hS hk => ?_)
  have hP : va_P D vwCl [(h3, .inr (6, [v16, v17, v18, v19, v20, v21, v22, v23, v24, v25, v26, v27, v28, .int 0, v29, v30, v31, v32, v33, v34, v35, v36, v37, v38, v39, v40, v41])), (h0, .inr (5, [.ref h1, v0, v1, v2, v3, v4, v5, v6, v7, v8])), (h2, .inl (a0, 1, .inr (.inl (vp_updL f0 0 0)))), (h1, .inr (3, [v9, .int 0, v10, v11, v12, v13, v14, v15]))] H := hP
  have hD : va_D A [(h3, .inr (6, [v16, v17, v18, v19, v20, v21, v22, v23, v24, v25, v26, v27, v28, .int 0, v29, v30, v31, v32, v33, v34, v35, v36, v37, v38, v39, v40, v41])), (h0, .inr (5, [.ref h1, v0, v1, v2, v3, v4, v5, v6, v7, v8])), (h2, .inl (a0, 1, .inr (.inl (vp_updL f0 0 0)))), (h1, .inr (3, [v9, .int 0, v10, v11, v12, v13, v14, v15]))] := hD
  have hK : va_K D vwCl [(a0, .long)] s := hK
  refine W.widen (k := 1010) (n := 8898) (Nat.le_of_ble_eq_true rfl) (Nat.le_of_ble_eq_true rfl) ?_
  refine lv_istore (lv' := [(5, .int 0), (4, .int 0), (3, .ref h2), (2, .ref h3), (1, .ref h0), (0, .ref b)]) hx hb dL_law_304 hl (by decide) rfl (fun ls hl => ?_)
  refine lv_aload_n hx hb dL_law_306 rfl (lv_at hl 3 rfl) ?_
  refine lv_aload_n hx hb dL_law_307 rfl (lv_at hl 5 rfl) ?_
  refine lv_iload hx hb dL_law_308 (lv_at hl 1 rfl) ?_
  refine lv_iconst (v := 1) hx hb dL_law_310 (by decide) ?_
  refine lv_iadd hx hb dL_law_311 ?_
  refine ti (1) (by decide) ?_
  refine va_sld hx hb hXs hbl hbA hS (vin (by decide)) dL_law_312 ?_
  refine ti 0 e1 ?_
  refine cVi (n := 1) (As := [.int 0]) (rest := []) (wr := [(h0, .inr (5, [.ref h1, v0, v1, v2, v3, v4, v5, v6, v7, v8])), (h2, .inl (a0, 1, .inr (.inl (vp_updL f0 0 0)))), (h1, .inr (3, [v9, .int 0, v10, v11, v12, v13, v14, v15]))]) (tr := [(a0, .long)]) hx hb hml hown hg okN (cX6_truncate_11 l D h3 v16 v17 v18 v19 v20 v21 v22 v23 v24 v25 v26 v27 v28 v29 v30 v31 v32 v33 v34 v35 v36 v37 v38 v39 v40 v41) (mwV k1313 k1314 k1315 k92 k1316) ⟨rfl, by decide, by decide, by decide +kernel⟩ ⟨rfl, rfl, (Nat.le_of_ble_eq_true rfl), (Nat.le_of_ble_eq_true rfl)⟩ hP hD hK hS xn [0] [0] [1, 2, 3] [] [0] rfl (by decide) rfl rfl (by decide) (by decide) rfl rfl (va_free hD hS hA [0] rfl) (va_free hD hS hA [0] rfl) 0 rfl rfl rfl hl.1 rfl (Nat.le_of_ble_eq_true rfl) dL_law_313 ⟨(Nat.le_of_ble_eq_true rfl), (Nat.le_of_ble_eq_true rfl)⟩ (fun u H locs hφ hP hD hK hS hk => ?_)
  have hP : va_P D vwCl [(h0, .inr (5, [.ref h1, v0, v1, v2, v3, v4, v5, v6, v7, v8])), (h2, .inl (a0, 1, .inr (.inl (vp_updL f0 0 0)))), (h1, .inr (3, [v9, .int 0, v10, v11, v12, v13, v14, v15])), (h3, .inr (6, [.int 0, v17, v18, v19, v20, v21, v22, v23, v24, v25, v26, v27, v28, .int 0, v29, v30, v31, v32, v33, v34, v35, v36, v37, v38, v39, v40, v41]))] H := hP
  have hD : va_D A [(h0, .inr (5, [.ref h1, v0, v1, v2, v3, v4, v5, v6, v7, v8])), (h2, .inl (a0, 1, .inr (.inl (vp_updL f0 0 0)))), (h1, .inr (3, [v9, .int 0, v10, v11, v12, v13, v14, v15])), (h3, .inr (6, [.int 0, v17, v18, v19, v20, v21, v22, v23, v24, v25, v26, v27, v28, .int 0, v29, v30, v31, v32, v33, v34, v35, v36, v37, v38, v39, v40, v41]))] := hD
  have hK : va_K D vwCl [(a0, .long)] s := hK
  refine W.widen (k := 1010) (n := 8898) (Nat.le_of_ble_eq_true rfl) (Nat.le_of_ble_eq_true rfl) ?_
  refine lv_istore (lv' := [(6, .int 0), (5, .int 0), (4, .int 0), (3, .ref h2), (2, .ref h3), (1, .ref h0), (0, .ref b)]) hx hb dL_law_316 hl (by decide) rfl (fun ls hl => ?_)
  refine lv_aload_n hx hb dL_law_318 rfl (lv_at hl 4 rfl) ?_
  refine cVi (n := 0) (As := []) (rest := []) (wr := [(h0, .inr (5, [.ref h1, v0, v1, v2, v3, v4, v5, v6, v7, v8])), (h2, .inl (a0, 1, .inr (.inl (vp_updL f0 0 0)))), (h1, .inr (3, [v9, .int 0, v10, v11, v12, v13, v14, v15])), (h3, .inr (6, [.int 0, v17, v18, v19, v20, v21, v22, v23, v24, v25, v26, v27, v28, .int 0, v29, v30, v31, v32, v33, v34, v35, v36, v37, v38, v39, v40, v41]))]) (tr := [(a0, .long)]) hx hb hml hown hg okN (cX6_thrown_1 l D h3 v17 v18 v19 v20 v21 v22 v23 v24 v25 v26 v27 v28 (.int 0) v29 v30 v31 v32 v33 v34 v35 v36 v37 v38 v39 v40 v41) (mwV k1301 k1302 k1303 k92 k1304) ⟨rfl, by decide, by decide, by decide +kernel⟩ ⟨rfl, rfl, (Nat.le_of_ble_eq_true rfl), (Nat.le_of_ble_eq_true rfl)⟩ hP hD hK hS xn [3] [] [0, 1, 2, 3] [] [0] rfl (by decide) rfl rfl (by decide) (by decide) rfl rfl (aNil hA hS) (aNil hA hS) 3 rfl rfl rfl hl.1 rfl (Nat.le_of_ble_eq_true rfl) dL_law_319 ⟨(Nat.le_of_ble_eq_true rfl), (Nat.le_of_ble_eq_true rfl)⟩ (fun u H locs hφ hP hD hK hS hk => ?_)
  have hP : va_P D vwCl [(h0, .inr (5, [.ref h1, v0, v1, v2, v3, v4, v5, v6, v7, v8])), (h2, .inl (a0, 1, .inr (.inl (vp_updL f0 0 0)))), (h1, .inr (3, [v9, .int 0, v10, v11, v12, v13, v14, v15])), (h3, .inr (6, [.int 0, v17, v18, v19, v20, v21, v22, v23, v24, v25, v26, v27, v28, .int 0, v29, v30, v31, v32, v33, v34, v35, v36, v37, v38, v39, v40, v41]))] H := hP
  have hD : va_D A [(h0, .inr (5, [.ref h1, v0, v1, v2, v3, v4, v5, v6, v7, v8])), (h2, .inl (a0, 1, .inr (.inl (vp_updL f0 0 0)))), (h1, .inr (3, [v9, .int 0, v10, v11, v12, v13, v14, v15])), (h3, .inr (6, [.int 0, v17, v18, v19, v20, v21, v22, v23, v24, v25, v26, v27, v28, .int 0, v29, v30, v31, v32, v33, v34, v35, v36, v37, v38, v39, v40, v41]))] := hD
  have hK : va_K D vwCl [(a0, .long)] s := hK
  refine W.widen (k := 1010) (n := 8898) (Nat.le_of_ble_eq_true rfl) (Nat.le_of_ble_eq_true rfl) ?_
  refine lv_iload hx hb dL_law_322 (lv_at hl 1 rfl) ?_
  refine lv_icmp_eq (tgt := 329) hx hb dL_law_324 (by decide) (fun _ => ?_) (fun c9 => absurd (by decide) c9)
  refine lv_iload hx hb dL_law_329 (lv_at hl 1 rfl) ?_
  refine lv_if_ne (tgt := 346) hx hb dL_law_331 (by decide) (fun c9 => absurd (by decide) c9) (fun _ => ?_)
  refine lv_aload_n hx hb dL_law_334 rfl (lv_at hl 3 rfl) ?_
  refine lv_iconst (v := 0) hx hb dL_law_335 (by decide) ?_
  refine aldL hx hb hK hP 1 0 rfl rfl 0 (by decide) (vin (by decide)) (v := 0) rfl dL_law_336 ?_
  refine lv_iload hx hb dL_law_337 (lv_at hl 0 rfl) ?_
  refine lv_i2l (v := 0) hx hb dL_law_339 (by decide) ?_
  refine W.lcmp hx hb dL_law_340 ?_
  refine ti (0) (by decide) ?_
  refine lv_if_eq (tgt := 346) hx hb dL_law_341 (by decide) (fun _ => ?_) (fun c9 => absurd (by decide) c9)
  refine lv_goto (tgt := 2199) hx hb dL_law_346 (by decide) ?_
  refine W.widen (k := 3000) (n := 30000) (Nat.le_of_ble_eq_true rfl) (Nat.le_of_ble_eq_true rfl) ?_
  exact kk _ _ _ hS (lv_sub hl [2, 6] rfl)
set_option maxHeartbeats 4000000 in
set_option maxRecDepth 100000 in
theorem law_1_2 {p : Program} {e : Env} {s : State} {m : MethodId} {below : List Frame} {meth : Method} {c : Code} (l : Launch) (hlt : l.stackTraces = false) {b : Nat} {xs : Nat → Int32} (hx : p.tables.exec = Jvm.exec) (hb : c.code = cL_law) (hml : c.maxLocals = 9) (hown : s.vm.findClass RL = some m.cls) (hg : ∀ w ∈ GW, w.before #[Value.ref b] s = true) (hXs : va_X b 6 xs s s.heap) (hbl : b < s.heap.size) (D : va_G) {A : Nat → Prop} (hA : ∀ q, s.heap.size ≤ q → A q) (hbA : ¬ A b) (hX : XX A s s.heap) (Q : State → Prop) (h0 : Nat) (h1 : Nat) (h2 : Nat) (h3 : Nat) (v0 : Value) (v1 : Value) (v2 : Value) (v3 : Value) (v4 : Value) (v5 : Value) (v6 : Value) (v7 : Value) (v8 : Value) (v9 : Value) (v10 : Value) (v11 : Value) (v12 : Value) (v13 : Value) (v14 : Value) (v15 : Value) (v16 : Value) (v17 : Value) (v18 : Value) (v19 : Value) (v20 : Value) (v21 : Value) (v22 : Value) (v23 : Value) (v24 : Value) (v25 : Value) (v26 : Value) (v27 : Value) (v28 : Value) (v29 : Value) (v30 : Value) (v31 : Value) (v32 : Value) (v33 : Value) (v34 : Value) (v35 : Value) (v36 : Value) (v37 : Value) (v38 : Value) (v39 : Value) (v40 : Value) (v41 : Value)  (p1 : Int32) (e1 : xs 1 = p1) (bl1 : 1 ≤ p1.toInt) (bh1 : p1.toInt ≤ 2147483647) {H : Heap} {locs : List Loc} {ls : Array Slot} (hP : va_P D vwCl [(h0, .inr (5, [.ref h1, v0, v1, v2, v3, v4, v5, v6, v7, v8])), (h1, .inr (3, [v9, .int 0, v10, v11, v12, v13, v14, v15])), (h2, .inr (6, [v16, v17, v18, v19, v20, v21, v22, v23, v24, v25, v26, v27, v28, .int 0, v29, v30, v31, v32, v33, v34, v35, v36, v37, v38, v39, v40, v41]))] H) (hD : va_D A [(h0, .inr (5, [.ref h1, v0, v1, v2, v3, v4, v5, v6, v7, v8])), (h1, .inr (3, [v9, .int 0, v10, v11, v12, v13, v14, v15])), (h2, .inr (6, [v16, v17, v18, v19, v20, v21, v22, v23, v24, v25, v26, v27, v28, .int 0, v29, v30, v31, v32, v33, v34, v35, v36, v37, v38, v39, v40, v41]))]) (hK : va_K D vwCl [] s) (hS : va_S A s.heap H locs) (hl : lv_has ls 9 [(4, .int 0), (3, .ref h3), (2, .ref h2), (1, .ref h0), (0, .ref b)]) (kk : ∀ (H : Heap) (locs : List Loc) (ls : Array Slot), va_S A s.heap H locs → lv_has ls 9 [(4, .int 0), (0, .ref b)] → W p l e room_1 s m #[Value.ref b] below meth c H locs 3000 30000 Q (F0 m 2199 ls [])) : W p l e room_1 s m #[Value.ref b] below meth c H locs 1010 8898 Q (F0 m 293 ls []) := by
  have d0 : ¬ (p1 < 0) := i_nlt (by have h0 : (0 : Int32).toInt = 0 := (by decide); omega)
  have d1 : ¬ (p1 < 1) := i_nlt (by have h1 : (1 : Int32).toInt = 1 := (by decide); omega)
  have d2 : ¬ ((lg_cmp p1.toInt64 0) < 0) := lgq3 (by have h0 : (0 : Int64).toInt = 0 := (by decide); have hp1 := i2lI p1; omega)
  have d3 : 0 < (lg_cmp p1.toInt64 0) := lgq5 (by have h0 : (0 : Int64).toInt = 0 := (by decide); have hp1 := i2lI p1; omega)
  refine lv_aload_n hx hb dL_law_293 rfl (lv_at hl 3 rfl) ?_
  refine lv_aload_n hx hb dL_law_294 rfl (lv_at hl 4 rfl) ?_
  refine lv_iload hx hb dL_law_295 (lv_at hl 0 rfl) ?_
  refine lv_iconst (v := 1) hx hb dL_law_297 (by decide) ?_
  refine lv_iadd hx hb dL_law_298 ?_
  refine ti (1) (by decide) ?_
  refine va_sld hx hb hXs hbl hbA hS (vin (by decide)) dL_law_299 ?_
  refine ti p1 e1 ?_
  refine lv_aload_n hx hb dL_law_300 rfl (lv_at hl 1 rfl) ?_
  refine cHi (n := 3) (As := [.ref h0, .int p1, .ref h3]) (rest := []) (wr := [(h0, .inr (5, [.ref h1, v0, v1, v2, v3, v4, v5, v6, v7, v8])), (h1, .inr (3, [v9, .int 0, v10, v11, v12, v13, v14, v15])), (h2, .inr (6, [v16, v17, v18, v19, v20, v21, v22, v23, v24, v25, v26, v27, v28, .int 0, v29, v30, v31, v32, v33, v34, v35, v36, v37, v38, v39, v40, v41]))]) (tr := []) hx hb hml hown hg okXX (cL_truncate_603 l D hlt h0 p1 h3 h1 v0 v1 v2 v3 v4 v5 v6 v7 v8 v9 v10 v11 v12 v13 v14 v15 d0 d1) (mwHS k602 k603 k83 k604) ⟨by decide, by decide, by decide +kernel⟩ ⟨rfl, rfl, (Nat.le_of_ble_eq_true rfl), (Nat.le_of_ble_eq_true rfl)⟩ hP hD hK hS (okXX.2.2 _ _ _ _ hS.2.1 hX) [0, 1] [] [0, 1, 2] [] [] rfl (by decide) rfl rfl (by decide) (by decide) rfl rfl (aNil hA hS) (aNil hA hS) rfl hl.1 rfl (Nat.le_of_ble_eq_true rfl) dL_law_301 ⟨(Nat.le_of_ble_eq_true rfl), (Nat.le_of_ble_eq_true rfl)⟩ (fun u H locs hφ hP hD hK hS hk => ?_)
  have hP : va_P D vwCl [(h0, .inr (5, [.ref h1, v0, v1, v2, v3, v4, v5, v6, v7, v8])), (h1, .inr (3, [v9, .int 0, v10, v11, v12, v13, v14, v15])), (h2, .inr (6, [v16, v17, v18, v19, v20, v21, v22, v23, v24, v25, v26, v27, v28, .int 0, v29, v30, v31, v32, v33, v34, v35, v36, v37, v38, v39, v40, v41]))] H := hP
  have hD : va_D A [(h0, .inr (5, [.ref h1, v0, v1, v2, v3, v4, v5, v6, v7, v8])), (h1, .inr (3, [v9, .int 0, v10, v11, v12, v13, v14, v15])), (h2, .inr (6, [v16, v17, v18, v19, v20, v21, v22, v23, v24, v25, v26, v27, v28, .int 0, v29, v30, v31, v32, v33, v34, v35, v36, v37, v38, v39, v40, v41]))] := hD
  have hK : va_K D vwCl [] s := hK
  refine W.widen (k := 1011) (n := 8904) (Nat.le_of_ble_eq_true rfl) (Nat.le_of_ble_eq_true rfl) ?_
  refine lv_istore (lv' := [(5, .int 1), (4, .int 0), (3, .ref h3), (2, .ref h2), (1, .ref h0), (0, .ref b)]) hx hb dL_law_304 hl (by decide) rfl (fun ls hl => ?_)
  refine lv_aload_n hx hb dL_law_306 rfl (lv_at hl 3 rfl) ?_
  refine lv_aload_n hx hb dL_law_307 rfl (lv_at hl 5 rfl) ?_
  refine lv_iload hx hb dL_law_308 (lv_at hl 1 rfl) ?_
  refine lv_iconst (v := 1) hx hb dL_law_310 (by decide) ?_
  refine lv_iadd hx hb dL_law_311 ?_
  refine ti (1) (by decide) ?_
  refine va_sld hx hb hXs hbl hbA hS (vin (by decide)) dL_law_312 ?_
  refine ti p1 e1 ?_
  refine cVi (n := 1) (As := [.int p1]) (rest := []) (wr := [(h0, .inr (5, [.ref h1, v0, v1, v2, v3, v4, v5, v6, v7, v8])), (h1, .inr (3, [v9, .int 0, v10, v11, v12, v13, v14, v15]))]) (tr := []) hx hb hml hown hg okN (cX6_truncate_13 l D h2 p1 v16 v17 v18 v19 v20 v21 v22 v23 v24 v25 v26 v27 v28 v29 v30 v31 v32 v33 v34 v35 v36 v37 v38 v39 v40 v41 d2 d3) (mwV k1313 k1314 k1315 k92 k1316) ⟨rfl, by decide, by decide, by decide +kernel⟩ ⟨rfl, rfl, (Nat.le_of_ble_eq_true rfl), (Nat.le_of_ble_eq_true rfl)⟩ hP hD hK hS xn [2] [2] [0, 1] [] [] rfl (by decide) rfl rfl (by decide) (by decide) rfl rfl (va_free hD hS hA [2] rfl) (va_free hD hS hA [2] rfl) 2 rfl rfl rfl hl.1 rfl (Nat.le_of_ble_eq_true rfl) dL_law_313 ⟨(Nat.le_of_ble_eq_true rfl), (Nat.le_of_ble_eq_true rfl)⟩ (fun u H locs hφ hP hD hK hS hk => ?_)
  have hP : va_P D vwCl [(h0, .inr (5, [.ref h1, v0, v1, v2, v3, v4, v5, v6, v7, v8])), (h1, .inr (3, [v9, .int 0, v10, v11, v12, v13, v14, v15])), (h2, .inr (6, [.int 1, v17, v18, v19, v20, v21, v22, v23, v24, v25, v26, v27, v28, .int 0, v29, v30, v31, v32, v33, v34, v35, v36, v37, v38, v39, v40, v41]))] H := hP
  have hD : va_D A [(h0, .inr (5, [.ref h1, v0, v1, v2, v3, v4, v5, v6, v7, v8])), (h1, .inr (3, [v9, .int 0, v10, v11, v12, v13, v14, v15])), (h2, .inr (6, [.int 1, v17, v18, v19, v20, v21, v22, v23, v24, v25, v26, v27, v28, .int 0, v29, v30, v31, v32, v33, v34, v35, v36, v37, v38, v39, v40, v41]))] := hD
  have hK : va_K D vwCl [] s := hK
  refine W.widen (k := 1011) (n := 8904) (Nat.le_of_ble_eq_true rfl) (Nat.le_of_ble_eq_true rfl) ?_
  refine lv_istore (lv' := [(6, .int 0), (5, .int 1), (4, .int 0), (3, .ref h3), (2, .ref h2), (1, .ref h0), (0, .ref b)]) hx hb dL_law_316 hl (by decide) rfl (fun ls hl => ?_)
  refine lv_aload_n hx hb dL_law_318 rfl (lv_at hl 4 rfl) ?_
  refine cVi (n := 0) (As := []) (rest := []) (wr := [(h0, .inr (5, [.ref h1, v0, v1, v2, v3, v4, v5, v6, v7, v8])), (h1, .inr (3, [v9, .int 0, v10, v11, v12, v13, v14, v15])), (h2, .inr (6, [.int 1, v17, v18, v19, v20, v21, v22, v23, v24, v25, v26, v27, v28, .int 0, v29, v30, v31, v32, v33, v34, v35, v36, v37, v38, v39, v40, v41]))]) (tr := []) hx hb hml hown hg okN (cX6_thrown_601 l D h2 v17 v18 v19 v20 v21 v22 v23 v24 v25 v26 v27 v28 (.int 0) v29 v30 v31 v32 v33 v34 v35 v36 v37 v38 v39 v40 v41) (mwV k1301 k1302 k1303 k92 k1304) ⟨rfl, by decide, by decide, by decide +kernel⟩ ⟨rfl, rfl, (Nat.le_of_ble_eq_true rfl), (Nat.le_of_ble_eq_true rfl)⟩ hP hD hK hS xn [2] [] [0, 1, 2] [] [] rfl (by decide) rfl rfl (by decide) (by decide) rfl rfl (aNil hA hS) (aNil hA hS) 2 rfl rfl rfl hl.1 rfl (Nat.le_of_ble_eq_true rfl) dL_law_319 ⟨(Nat.le_of_ble_eq_true rfl), (Nat.le_of_ble_eq_true rfl)⟩ (fun u H locs hφ hP hD hK hS hk => ?_)
  have hP : va_P D vwCl [(h0, .inr (5, [.ref h1, v0, v1, v2, v3, v4, v5, v6, v7, v8])), (h1, .inr (3, [v9, .int 0, v10, v11, v12, v13, v14, v15])), (h2, .inr (6, [.int 1, v17, v18, v19, v20, v21, v22, v23, v24, v25, v26, v27, v28, .int 0, v29, v30, v31, v32, v33, v34, v35, v36, v37, v38, v39, v40, v41]))] H := hP
  have hD : va_D A [(h0, .inr (5, [.ref h1, v0, v1, v2, v3, v4, v5, v6, v7, v8])), (h1, .inr (3, [v9, .int 0, v10, v11, v12, v13, v14, v15])), (h2, .inr (6, [.int 1, v17, v18, v19, v20, v21, v22, v23, v24, v25, v26, v27, v28, .int 0, v29, v30, v31, v32, v33, v34, v35, v36, v37, v38, v39, v40, v41]))] := hD
  have hK : va_K D vwCl [] s := hK
  refine W.widen (k := 1011) (n := 8904) (Nat.le_of_ble_eq_true rfl) (Nat.le_of_ble_eq_true rfl) ?_
  refine lv_iload hx hb dL_law_322 (lv_at hl 1 rfl) ?_
  refine lv_icmp_eq (tgt := 329) hx hb dL_law_324 (by decide) (fun _ => ?_) (fun c9 => absurd (by decide) c9)
  refine lv_iload hx hb dL_law_329 (lv_at hl 1 rfl) ?_
  refine lv_if_ne (tgt := 346) hx hb dL_law_331 (by decide) (fun _ => ?_) (fun c9 => absurd c9 (by decide))
  refine lv_goto (tgt := 2199) hx hb dL_law_346 (by decide) ?_
  refine W.widen (k := 3000) (n := 30000) (Nat.le_of_ble_eq_true rfl) (Nat.le_of_ble_eq_true rfl) ?_
  exact kk _ _ _ hS (lv_sub hl [2, 6] rfl)
set_option maxHeartbeats 4000000 in
set_option maxRecDepth 100000 in
theorem law_2_0 {p : Program} {e : Env} {s : State} {m : MethodId} {below : List Frame} {meth : Method} {c : Code} (l : Launch) (hlt : l.stackTraces = false) {b : Nat} {xs : Nat → Int32} (hx : p.tables.exec = Jvm.exec) (hb : c.code = cL_law) (hml : c.maxLocals = 9) (hown : s.vm.findClass RL = some m.cls) (hg : ∀ w ∈ GW, w.before #[Value.ref b] s = true) (hXs : va_X b 6 xs s s.heap) (hbl : b < s.heap.size) (D : va_G) {A : Nat → Prop} (hA : ∀ q, s.heap.size ≤ q → A q) (hbA : ¬ A b) (hX : XX A s s.heap) (Q : State → Prop) (h0 : Nat) (h1 : Nat) (h2 : Nat) (h3 : Nat) (h4 : Nat) (v0 : Value) (v1 : Value) (v2 : Value) (v3 : Value) (v4 : Value) (v5 : Value) (v6 : Value) (v7 : Value) (v8 : Value) (v9 : Value) (v10 : Value) (v11 : Value) (v12 : Value) (v13 : Value) (v14 : Value) (v15 : Value) (v16 : Value) (v17 : Value) (v18 : Value) (v19 : Value) (v20 : Value) (v21 : Value) (v22 : Value) (v23 : Value) (v24 : Value) (v25 : Value) (v26 : Value) (v27 : Value) (v28 : Value) (v29 : Value) (v30 : Value) (v31 : Value) (v32 : Value) (v33 : Value) (v34 : Value) (v35 : Value) (v36 : Value) (v37 : Value) (v38 : Value) (v39 : Value) (v40 : Value) (v41 : Value) (v42 : Value) (v43 : Value) (v44 : Value) (v45 : Value) (v46 : Value) (v47 : Value)   {H : Heap} {locs : List Loc} {ls : Array Slot} (hP : va_P D vwCl [(h0, .inr (5, [.ref h1, v0, .ref h2, v1, v2, v3, v4, v5, v6, v7])), (h1, .inr (3, [v8, .int 0, v9, v10, v11, v12, v13, v14])), (h2, .inr (0, [v15, v16, v17, v18, v19, v20, v21])), (h3, .inr (6, [v22, v23, v24, v25, v26, v27, v28, v29, v30, v31, v32, v33, v34, .int 0, v35, v36, v37, v38, v39, v40, v41, v42, v43, v44, v45, v46, v47]))] H) (hD : va_D A [(h0, .inr (5, [.ref h1, v0, .ref h2, v1, v2, v3, v4, v5, v6, v7])), (h1, .inr (3, [v8, .int 0, v9, v10, v11, v12, v13, v14])), (h2, .inr (0, [v15, v16, v17, v18, v19, v20, v21])), (h3, .inr (6, [v22, v23, v24, v25, v26, v27, v28, v29, v30, v31, v32, v33, v34, .int 0, v35, v36, v37, v38, v39, v40, v41, v42, v43, v44, v45, v46, v47]))]) (hK : va_K D vwCl [] s) (hS : va_S A s.heap H locs) (hl : lv_has ls 9 [(4, .int 0), (3, .ref h4), (2, .ref h3), (1, .ref h0), (0, .ref b)]) (kk : ∀ (H : Heap) (locs : List Loc) (ls : Array Slot), va_S A s.heap H locs → lv_has ls 9 [(4, .int 0), (0, .ref b)] → W p l e room_1 s m #[Value.ref b] below meth c H locs 3000 30000 Q (F0 m 2199 ls [])) : W p l e room_1 s m #[Value.ref b] below meth c H locs 1010 8898 Q (F0 m 349 ls []) := by
  refine lv_aload_n hx hb dL_law_349 rfl (lv_at hl 3 rfl) ?_
  refine lv_aload_n hx hb dL_law_350 rfl (lv_at hl 1 rfl) ?_
  refine cHi (n := 2) (As := [.ref h0, .ref h4]) (rest := []) (wr := [(h3, .inr (6, [v22, v23, v24, v25, v26, v27, v28, v29, v30, v31, v32, v33, v34, .int 0, v35, v36, v37, v38, v39, v40, v41, v42, v43, v44, v45, v46, v47]))]) (tr := []) hx hb hml hown hg okXX (cL_load_604 l D hlt h0 h4 h1 h2 v0 v1 v2 v3 v4 v5 v6 v7 v8 v9 v10 v11 v12 v13 v14 v15 v16 v17 v18 v19 v20 v21) (mwHS k681 k682 k83 k683) ⟨by decide, by decide, by decide +kernel⟩ ⟨rfl, rfl, (Nat.le_of_ble_eq_true rfl), (Nat.le_of_ble_eq_true rfl)⟩ hP hD hK hS (okXX.2.2 _ _ _ _ hS.2.1 hX) [0, 1, 2] [0, 1, 2] [3] [] [] rfl (by decide) rfl rfl (by decide) (by decide) rfl rfl (va_free hD hS hA [0, 1, 2] rfl) (va_free hD hS hA [0, 1, 2] rfl) rfl hl.1 rfl (Nat.le_of_ble_eq_true rfl) dL_law_351 ⟨(Nat.le_of_ble_eq_true rfl), (Nat.le_of_ble_eq_true rfl)⟩ (fun u H locs hφ hP hD hK hS hk => ?_)
  have hP : va_P D vwCl [(h3, .inr (6, [v22, v23, v24, v25, v26, v27, v28, v29, v30, v31, v32, v33, v34, .int 0, v35, v36, v37, v38, v39, v40, v41, v42, v43, v44, v45, v46, v47]))] H := hP
  have hD : va_D A [(h3, .inr (6, [v22, v23, v24, v25, v26, v27, v28, v29, v30, v31, v32, v33, v34, .int 0, v35, v36, v37, v38, v39, v40, v41, v42, v43, v44, v45, v46, v47]))] := hD
  have hK : va_K D vwCl [] s := hK
  refine W.widen (k := 1011) (n := 8904) (Nat.le_of_ble_eq_true rfl) (Nat.le_of_ble_eq_true rfl) ?_
  refine lv_istore (lv' := [(5, .int 1), (4, .int 0), (3, .ref h4), (2, .ref h3), (1, .ref h0), (0, .ref b)]) hx hb dL_law_354 hl (by decide) rfl (fun ls hl => ?_)
  refine lv_aload_n hx hb dL_law_356 rfl (lv_at hl 3 rfl) ?_
  refine cVi (n := 0) (As := []) (rest := []) (wr := []) (tr := []) hx hb hml hown hg okN (cX6_load_15 l D h3 v22 v23 v24 v25 v26 v27 v28 v29 v30 v31 v32 v33 v34 v35 v36 v37 v38 v39 v40 v41 v42 v43 v44 v45 v46 v47) (mwV k1324 k1325 k1326 k92 k1327) ⟨rfl, by decide, by decide, by decide +kernel⟩ ⟨rfl, rfl, (Nat.le_of_ble_eq_true rfl), (Nat.le_of_ble_eq_true rfl)⟩ hP hD hK hS xn [0] [0] [] [] [] rfl (by decide) rfl rfl (by decide) (by decide) rfl rfl (va_free hD hS hA [0] rfl) (va_free hD hS hA [0] rfl) 0 rfl rfl rfl hl.1 rfl (Nat.le_of_ble_eq_true rfl) dL_law_357 ⟨(Nat.le_of_ble_eq_true rfl), (Nat.le_of_ble_eq_true rfl)⟩ (fun u H locs hφ hP hD hK hS hk => ?_)
  have hP : va_P D vwCl [(h3, .inr (6, [.int 1, v23, v24, v25, v26, v27, v28, v29, v30, v31, v32, v33, v34, .int 0, .int 0, .int 1, .int 0, .int 1, .int 0, .int 2, .int 0, .int 2, .int 1, .int 0, v45, v46, v47]))] H := hP
  have hD : va_D A [(h3, .inr (6, [.int 1, v23, v24, v25, v26, v27, v28, v29, v30, v31, v32, v33, v34, .int 0, .int 0, .int 1, .int 0, .int 1, .int 0, .int 2, .int 0, .int 2, .int 1, .int 0, v45, v46, v47]))] := hD
  have hK : va_K D vwCl [] s := hK
  refine W.widen (k := 1011) (n := 8904) (Nat.le_of_ble_eq_true rfl) (Nat.le_of_ble_eq_true rfl) ?_
  refine lv_istore (lv' := [(6, .int 0), (5, .int 1), (4, .int 0), (3, .ref h4), (2, .ref h3), (1, .ref h0), (0, .ref b)]) hx hb dL_law_360 hl (by decide) rfl (fun ls hl => ?_)
  refine lv_aload_n hx hb dL_law_362 rfl (lv_at hl 4 rfl) ?_
  refine cVi (n := 0) (As := []) (rest := []) (wr := [(h3, .inr (6, [.int 1, v23, v24, v25, v26, v27, v28, v29, v30, v31, v32, v33, v34, .int 0, .int 0, .int 1, .int 0, .int 1, .int 0, .int 2, .int 0, .int 2, .int 1, .int 0, v45, v46, v47]))]) (tr := []) hx hb hml hown hg okN (cX6_thrown_601 l D h3 v23 v24 v25 v26 v27 v28 v29 v30 v31 v32 v33 v34 (.int 0) (.int 0) (.int 1) (.int 0) (.int 1) (.int 0) (.int 2) (.int 0) (.int 2) (.int 1) (.int 0) v45 v46 v47) (mwV k1301 k1302 k1303 k92 k1304) ⟨rfl, by decide, by decide, by decide +kernel⟩ ⟨rfl, rfl, (Nat.le_of_ble_eq_true rfl), (Nat.le_of_ble_eq_true rfl)⟩ hP hD hK hS xn [0] [] [0] [] [] rfl (by decide) rfl rfl (by decide) (by decide) rfl rfl (aNil hA hS) (aNil hA hS) 0 rfl rfl rfl hl.1 rfl (Nat.le_of_ble_eq_true rfl) dL_law_363 ⟨(Nat.le_of_ble_eq_true rfl), (Nat.le_of_ble_eq_true rfl)⟩ (fun u H locs hφ hP hD hK hS hk => ?_)
  have hP : va_P D vwCl [(h3, .inr (6, [.int 1, v23, v24, v25, v26, v27, v28, v29, v30, v31, v32, v33, v34, .int 0, .int 0, .int 1, .int 0, .int 1, .int 0, .int 2, .int 0, .int 2, .int 1, .int 0, v45, v46, v47]))] H := hP
  have hD : va_D A [(h3, .inr (6, [.int 1, v23, v24, v25, v26, v27, v28, v29, v30, v31, v32, v33, v34, .int 0, .int 0, .int 1, .int 0, .int 1, .int 0, .int 2, .int 0, .int 2, .int 1, .int 0, v45, v46, v47]))] := hD
  have hK : va_K D vwCl [] s := hK
  refine W.widen (k := 1011) (n := 8904) (Nat.le_of_ble_eq_true rfl) (Nat.le_of_ble_eq_true rfl) ?_
  refine lv_iload hx hb dL_law_366 (lv_at hl 1 rfl) ?_
  refine lv_icmp_eq (tgt := 373) hx hb dL_law_368 (by decide) (fun _ => ?_) (fun c9 => absurd (by decide) c9)
  refine lv_iload hx hb dL_law_373 (lv_at hl 1 rfl) ?_
  refine lv_if_ne (tgt := 390) hx hb dL_law_375 (by decide) (fun _ => ?_) (fun c9 => absurd c9 (by decide))
  refine lv_goto (tgt := 2199) hx hb dL_law_390 (by decide) ?_
  refine W.widen (k := 3000) (n := 30000) (Nat.le_of_ble_eq_true rfl) (Nat.le_of_ble_eq_true rfl) ?_
  exact kk _ _ _ hS (lv_sub hl [2, 6] rfl)
set_option maxHeartbeats 4000000 in
set_option maxRecDepth 100000 in
theorem law_3_0 {p : Program} {e : Env} {s : State} {m : MethodId} {below : List Frame} {meth : Method} {c : Code} (l : Launch) (hlt : l.stackTraces = false) {b : Nat} {xs : Nat → Int32} (hx : p.tables.exec = Jvm.exec) (hb : c.code = cL_law) (hml : c.maxLocals = 9) (hown : s.vm.findClass RL = some m.cls) (hg : ∀ w ∈ GW, w.before #[Value.ref b] s = true) (hXs : va_X b 6 xs s s.heap) (hbl : b < s.heap.size) (D : va_G) {A : Nat → Prop} (hA : ∀ q, s.heap.size ≤ q → A q) (hbA : ¬ A b) (hX : XX A s s.heap) (Q : State → Prop) (h0 : Nat) (h1 : Nat) (h2 : Nat) (h3 : Nat) (v0 : Value) (v1 : Value) (v2 : Value) (v3 : Value) (v4 : Value) (v5 : Value) (v6 : Value) (v7 : Value) (v8 : Value) (v9 : Value) (v10 : Value) (v11 : Value) (v12 : Value) (v13 : Value) (v14 : Value) (v15 : Value) (v16 : Value) (v17 : Value) (v18 : Value) (v19 : Value) (v20 : Value) (v21 : Value) (v22 : Value) (v23 : Value) (v24 : Value) (v25 : Value) (v26 : Value) (v27 : Value) (v28 : Value) (v29 : Value) (v30 : Value) (v31 : Value) (v32 : Value) (v33 : Value) (v34 : Value) (v35 : Value) (v36 : Value) (v37 : Value) (v38 : Value) (v39 : Value) (v40 : Value) (v41 : Value)   {H : Heap} {locs : List Loc} {ls : Array Slot} (hP : va_P D vwCl [(h0, .inr (5, [.ref h1, v0, v1, v2, v3, v4, v5, v6, v7, v8])), (h1, .inr (3, [v9, v10, .int 0, v11, v12, v13, v14, v15])), (h2, .inr (6, [v16, v17, v18, v19, v20, v21, v22, v23, v24, v25, v26, v27, v28, v29, v30, .int 0, v31, v32, v33, v34, v35, v36, v37, v38, v39, v40, v41]))] H) (hD : va_D A [(h0, .inr (5, [.ref h1, v0, v1, v2, v3, v4, v5, v6, v7, v8])), (h1, .inr (3, [v9, v10, .int 0, v11, v12, v13, v14, v15])), (h2, .inr (6, [v16, v17, v18, v19, v20, v21, v22, v23, v24, v25, v26, v27, v28, v29, v30, .int 0, v31, v32, v33, v34, v35, v36, v37, v38, v39, v40, v41]))]) (hK : va_K D vwCl [] s) (hS : va_S A s.heap H locs) (hl : lv_has ls 9 [(4, .int 0), (3, .ref h3), (2, .ref h2), (1, .ref h0), (0, .ref b)]) (kk : ∀ (H : Heap) (locs : List Loc) (ls : Array Slot), va_S A s.heap H locs → lv_has ls 9 [(4, .int 0), (0, .ref b)] → W p l e room_1 s m #[Value.ref b] below meth c H locs 3000 30000 Q (F0 m 2199 ls [])) : W p l e room_1 s m #[Value.ref b] below meth c H locs 1010 8898 Q (F0 m 393 ls []) := by
  refine lv_aload_n hx hb dL_law_393 rfl (lv_at hl 3 rfl) ?_
  refine cVi (n := 0) (As := []) (rest := []) (wr := [(h0, .inr (5, [.ref h1, v0, v1, v2, v3, v4, v5, v6, v7, v8])), (h1, .inr (3, [v9, v10, .int 0, v11, v12, v13, v14, v15])), (h2, .inr (6, [v16, v17, v18, v19, v20, v21, v22, v23, v24, v25, v26, v27, v28, v29, v30, .int 0, v31, v32, v33, v34, v35, v36, v37, v38, v39, v40, v41]))]) (tr := []) hx hb hml hown hg okN (cX5_errorCode_321 l D h0 h1 v0 v1 v2 v3 v4 v5 v6 v7 v8 v9 v10 v11 v12 v13 v14 v15) (mwV k423 k424 k425 k84 k426) ⟨rfl, by decide, by decide, by decide +kernel⟩ ⟨rfl, rfl, (Nat.le_of_ble_eq_true rfl), (Nat.le_of_ble_eq_true rfl)⟩ hP hD hK hS xn [0, 1] [] [0, 1, 2] [] [] rfl (by decide) rfl rfl (by decide) (by decide) rfl rfl (aNil hA hS) (aNil hA hS) 0 rfl rfl rfl hl.1 rfl (Nat.le_of_ble_eq_true rfl) dL_law_394 ⟨(Nat.le_of_ble_eq_true rfl), (Nat.le_of_ble_eq_true rfl)⟩ (fun u H locs hφ hP hD hK hS hk => ?_)
  have hP : va_P D vwCl [(h0, .inr (5, [.ref h1, v0, v1, v2, v3, v4, v5, v6, v7, v8])), (h1, .inr (3, [v9, v10, .int 0, v11, v12, v13, v14, v15])), (h2, .inr (6, [v16, v17, v18, v19, v20, v21, v22, v23, v24, v25, v26, v27, v28, v29, v30, .int 0, v31, v32, v33, v34, v35, v36, v37, v38, v39, v40, v41]))] H := hP
  have hD : va_D A [(h0, .inr (5, [.ref h1, v0, v1, v2, v3, v4, v5, v6, v7, v8])), (h1, .inr (3, [v9, v10, .int 0, v11, v12, v13, v14, v15])), (h2, .inr (6, [v16, v17, v18, v19, v20, v21, v22, v23, v24, v25, v26, v27, v28, v29, v30, .int 0, v31, v32, v33, v34, v35, v36, v37, v38, v39, v40, v41]))] := hD
  have hK : va_K D vwCl [] s := hK
  refine W.widen (k := 1010) (n := 8898) (Nat.le_of_ble_eq_true rfl) (Nat.le_of_ble_eq_true rfl) ?_
  refine lv_aload_n hx hb dL_law_397 rfl (lv_at hl 2 rfl) ?_
  refine cVi (n := 0) (As := []) (rest := [.int 0]) (wr := [(h0, .inr (5, [.ref h1, v0, v1, v2, v3, v4, v5, v6, v7, v8])), (h1, .inr (3, [v9, v10, .int 0, v11, v12, v13, v14, v15]))]) (tr := []) hx hb hml hown hg okN (cX6_errorCode_26 l D h2 v16 v17 v18 v19 v20 v21 v22 v23 v24 v25 v26 v27 v28 v29 v30 v31 v32 v33 v34 v35 v36 v37 v38 v39 v40 v41) (mwV k1399 k1400 k1401 k92 k1402) ⟨rfl, by decide, by decide, by decide +kernel⟩ ⟨rfl, rfl, (Nat.le_of_ble_eq_true rfl), (Nat.le_of_ble_eq_true rfl)⟩ hP hD hK hS xn [2] [2] [0, 1] [] [] rfl (by decide) rfl rfl (by decide) (by decide) rfl rfl (va_free hD hS hA [2] rfl) (va_free hD hS hA [2] rfl) 2 rfl rfl rfl hl.1 rfl (Nat.le_of_ble_eq_true rfl) dL_law_398 ⟨(Nat.le_of_ble_eq_true rfl), (Nat.le_of_ble_eq_true rfl)⟩ (fun u H locs hφ hP hD hK hS hk => ?_)
  have hP : va_P D vwCl [(h0, .inr (5, [.ref h1, v0, v1, v2, v3, v4, v5, v6, v7, v8])), (h1, .inr (3, [v9, v10, .int 0, v11, v12, v13, v14, v15])), (h2, .inr (6, [.int 0, v17, v18, v19, v20, v21, v22, v23, v24, v25, v26, v27, v28, v29, v30, .int 0, v31, v32, v33, v34, v35, v36, v37, v38, v39, v40, v41]))] H := hP
  have hD : va_D A [(h0, .inr (5, [.ref h1, v0, v1, v2, v3, v4, v5, v6, v7, v8])), (h1, .inr (3, [v9, v10, .int 0, v11, v12, v13, v14, v15])), (h2, .inr (6, [.int 0, v17, v18, v19, v20, v21, v22, v23, v24, v25, v26, v27, v28, v29, v30, .int 0, v31, v32, v33, v34, v35, v36, v37, v38, v39, v40, v41]))] := hD
  have hK : va_K D vwCl [] s := hK
  refine W.widen (k := 1010) (n := 8898) (Nat.le_of_ble_eq_true rfl) (Nat.le_of_ble_eq_true rfl) ?_
  refine lv_icmp_eq (tgt := 2199) hx hb dL_law_401 (by decide) (fun _ => ?_) (fun c9 => absurd (by decide) c9)
  refine W.widen (k := 3000) (n := 30000) (Nat.le_of_ble_eq_true rfl) (Nat.le_of_ble_eq_true rfl) ?_
  exact kk _ _ _ hS (lv_sub hl [0, 4] rfl)
set_option maxHeartbeats 4000000 in
set_option maxRecDepth 100000 in
theorem law_4_0 {p : Program} {e : Env} {s : State} {m : MethodId} {below : List Frame} {meth : Method} {c : Code} (l : Launch) (hlt : l.stackTraces = false) {b : Nat} {xs : Nat → Int32} (hx : p.tables.exec = Jvm.exec) (hb : c.code = cL_law) (hml : c.maxLocals = 9) (hown : s.vm.findClass RL = some m.cls) (hg : ∀ w ∈ GW, w.before #[Value.ref b] s = true) (hXs : va_X b 6 xs s s.heap) (hbl : b < s.heap.size) (D : va_G) {A : Nat → Prop} (hA : ∀ q, s.heap.size ≤ q → A q) (hbA : ¬ A b) (hX : XX A s s.heap) (Q : State → Prop) (h0 : Nat) (h1 : Nat) (h2 : Nat) (h3 : Nat) (v0 : Value) (v1 : Value) (v2 : Value) (v3 : Value) (v4 : Value) (v5 : Value) (v6 : Value) (v7 : Value) (v8 : Value) (v9 : Value) (v10 : Value) (v11 : Value) (v12 : Value) (v13 : Value) (v14 : Value) (v15 : Value) (v16 : Value) (v17 : Value) (v18 : Value) (v19 : Value) (v20 : Value) (v21 : Value) (v22 : Value) (v23 : Value) (v24 : Value) (v25 : Value) (v26 : Value) (v27 : Value) (v28 : Value) (v29 : Value) (v30 : Value) (v31 : Value) (v32 : Value) (v33 : Value) (v34 : Value) (v35 : Value) (v36 : Value) (v37 : Value) (v38 : Value) (v39 : Value) (v40 : Value) (v41 : Value)   {H : Heap} {locs : List Loc} {ls : Array Slot} (hP : va_P D vwCl [(h0, .inr (5, [.ref h1, v0, v1, v2, v3, v4, v5, v6, v7, v8])), (h1, .inr (3, [v9, v10, v11, .int (-1), v12, v13, v14, v15])), (h2, .inr (6, [v16, v17, v18, v19, v20, v21, v22, v23, v24, v25, v26, v27, v28, v29, v30, v31, .int (-1), v32, v33, v34, v35, v36, v37, v38, v39, v40, v41]))] H) (hD : va_D A [(h0, .inr (5, [.ref h1, v0, v1, v2, v3, v4, v5, v6, v7, v8])), (h1, .inr (3, [v9, v10, v11, .int (-1), v12, v13, v14, v15])), (h2, .inr (6, [v16, v17, v18, v19, v20, v21, v22, v23, v24, v25, v26, v27, v28, v29, v30, v31, .int (-1), v32, v33, v34, v35, v36, v37, v38, v39, v40, v41]))]) (hK : va_K D vwCl [] s) (hS : va_S A s.heap H locs) (hl : lv_has ls 9 [(4, .int 0), (3, .ref h3), (2, .ref h2), (1, .ref h0), (0, .ref b)]) (kk : ∀ (H : Heap) (locs : List Loc) (ls : Array Slot), va_S A s.heap H locs → lv_has ls 9 [(4, .int 0), (0, .ref b)] → W p l e room_1 s m #[Value.ref b] below meth c H locs 3000 30000 Q (F0 m 2199 ls [])) : W p l e room_1 s m #[Value.ref b] below meth c H locs 1010 8898 Q (F0 m 406 ls []) := by
  refine lv_aload_n hx hb dL_law_406 rfl (lv_at hl 3 rfl) ?_
  refine cVi (n := 0) (As := []) (rest := []) (wr := [(h0, .inr (5, [.ref h1, v0, v1, v2, v3, v4, v5, v6, v7, v8])), (h1, .inr (3, [v9, v10, v11, .int (-1), v12, v13, v14, v15])), (h2, .inr (6, [v16, v17, v18, v19, v20, v21, v22, v23, v24, v25, v26, v27, v28, v29, v30, v31, .int (-1), v32, v33, v34, v35, v36, v37, v38, v39, v40, v41]))]) (tr := []) hx hb hml hown hg okN (cX5_errorPosition_322 l D h0 h1 v0 v1 v2 v3 v4 v5 v6 v7 v8 v9 v10 v11 v12 v13 v14 v15) (mwV k427 k428 k429 k84 k430) ⟨rfl, by decide, by decide, by decide +kernel⟩ ⟨rfl, rfl, (Nat.le_of_ble_eq_true rfl), (Nat.le_of_ble_eq_true rfl)⟩ hP hD hK hS xn [0, 1] [] [0, 1, 2] [] [] rfl (by decide) rfl rfl (by decide) (by decide) rfl rfl (aNil hA hS) (aNil hA hS) 0 rfl rfl rfl hl.1 rfl (Nat.le_of_ble_eq_true rfl) dL_law_407 ⟨(Nat.le_of_ble_eq_true rfl), (Nat.le_of_ble_eq_true rfl)⟩ (fun u H locs hφ hP hD hK hS hk => ?_)
  have hP : va_P D vwCl [(h0, .inr (5, [.ref h1, v0, v1, v2, v3, v4, v5, v6, v7, v8])), (h1, .inr (3, [v9, v10, v11, .int (-1), v12, v13, v14, v15])), (h2, .inr (6, [v16, v17, v18, v19, v20, v21, v22, v23, v24, v25, v26, v27, v28, v29, v30, v31, .int (-1), v32, v33, v34, v35, v36, v37, v38, v39, v40, v41]))] H := hP
  have hD : va_D A [(h0, .inr (5, [.ref h1, v0, v1, v2, v3, v4, v5, v6, v7, v8])), (h1, .inr (3, [v9, v10, v11, .int (-1), v12, v13, v14, v15])), (h2, .inr (6, [v16, v17, v18, v19, v20, v21, v22, v23, v24, v25, v26, v27, v28, v29, v30, v31, .int (-1), v32, v33, v34, v35, v36, v37, v38, v39, v40, v41]))] := hD
  have hK : va_K D vwCl [] s := hK
  refine W.widen (k := 1010) (n := 8898) (Nat.le_of_ble_eq_true rfl) (Nat.le_of_ble_eq_true rfl) ?_
  refine lv_aload_n hx hb dL_law_410 rfl (lv_at hl 2 rfl) ?_
  refine cVi (n := 0) (As := []) (rest := [.int (-1)]) (wr := [(h0, .inr (5, [.ref h1, v0, v1, v2, v3, v4, v5, v6, v7, v8])), (h1, .inr (3, [v9, v10, v11, .int (-1), v12, v13, v14, v15]))]) (tr := []) hx hb hml hown hg okN (cX6_errorPosition_27 l D h2 v16 v17 v18 v19 v20 v21 v22 v23 v24 v25 v26 v27 v28 v29 v30 v31 v32 v33 v34 v35 v36 v37 v38 v39 v40 v41) (mwV k1403 k1404 k1405 k92 k1406) ⟨rfl, by decide, by decide, by decide +kernel⟩ ⟨rfl, rfl, (Nat.le_of_ble_eq_true rfl), (Nat.le_of_ble_eq_true rfl)⟩ hP hD hK hS xn [2] [2] [0, 1] [] [] rfl (by decide) rfl rfl (by decide) (by decide) rfl rfl (va_free hD hS hA [2] rfl) (va_free hD hS hA [2] rfl) 2 rfl rfl rfl hl.1 rfl (Nat.le_of_ble_eq_true rfl) dL_law_411 ⟨(Nat.le_of_ble_eq_true rfl), (Nat.le_of_ble_eq_true rfl)⟩ (fun u H locs hφ hP hD hK hS hk => ?_)
  have hP : va_P D vwCl [(h0, .inr (5, [.ref h1, v0, v1, v2, v3, v4, v5, v6, v7, v8])), (h1, .inr (3, [v9, v10, v11, .int (-1), v12, v13, v14, v15])), (h2, .inr (6, [.int 0, v17, v18, v19, v20, v21, v22, v23, v24, v25, v26, v27, v28, v29, v30, v31, .int (-1), v32, v33, v34, v35, v36, v37, v38, v39, v40, v41]))] H := hP
  have hD : va_D A [(h0, .inr (5, [.ref h1, v0, v1, v2, v3, v4, v5, v6, v7, v8])), (h1, .inr (3, [v9, v10, v11, .int (-1), v12, v13, v14, v15])), (h2, .inr (6, [.int 0, v17, v18, v19, v20, v21, v22, v23, v24, v25, v26, v27, v28, v29, v30, v31, .int (-1), v32, v33, v34, v35, v36, v37, v38, v39, v40, v41]))] := hD
  have hK : va_K D vwCl [] s := hK
  refine W.widen (k := 1010) (n := 8898) (Nat.le_of_ble_eq_true rfl) (Nat.le_of_ble_eq_true rfl) ?_
  refine lv_icmp_eq (tgt := 2199) hx hb dL_law_414 (by decide) (fun _ => ?_) (fun c9 => absurd (by decide) c9)
  refine W.widen (k := 3000) (n := 30000) (Nat.le_of_ble_eq_true rfl) (Nat.le_of_ble_eq_true rfl) ?_
  exact kk _ _ _ hS (lv_sub hl [0, 4] rfl)
set_option maxHeartbeats 4000000 in
set_option maxRecDepth 100000 in
theorem law_5_0 {p : Program} {e : Env} {s : State} {m : MethodId} {below : List Frame} {meth : Method} {c : Code} (l : Launch) (hlt : l.stackTraces = false) {b : Nat} {xs : Nat → Int32} (hx : p.tables.exec = Jvm.exec) (hb : c.code = cL_law) (hml : c.maxLocals = 9) (hown : s.vm.findClass RL = some m.cls) (hg : ∀ w ∈ GW, w.before #[Value.ref b] s = true) (hXs : va_X b 6 xs s s.heap) (hbl : b < s.heap.size) (D : va_G) {A : Nat → Prop} (hA : ∀ q, s.heap.size ≤ q → A q) (hbA : ¬ A b) (hX : XX A s s.heap) (Q : State → Prop) (h0 : Nat) (h1 : Nat) (h2 : Nat) (v0 : Value) (v1 : Value) (v2 : Value) (v3 : Value) (v4 : Value) (v5 : Value) (v6 : Value) (v7 : Value) (v8 : Value) (v9 : Value) (v10 : Value) (v11 : Value) (v12 : Value) (v13 : Value) (v14 : Value) (v15 : Value) (v16 : Value) (v17 : Value) (v18 : Value) (v19 : Value) (v20 : Value) (v21 : Value) (v22 : Value) (v23 : Value) (v24 : Value) (v25 : Value) (v26 : Value) (v27 : Value) (v28 : Value) (v29 : Value) (v30 : Value) (v31 : Value) (v32 : Value) (v33 : Value) (v34 : Value) (v35 : Value) (v36 : Value)  (p1 : Int32) (e1 : xs 1 = p1) (bl1 : (-2147483648) ≤ p1.toInt) (bh1 : p1.toInt ≤ (-1)) {H : Heap} {locs : List Loc} {ls : Array Slot} (hP : va_P D vwCl [(h0, .inr (5, [v0, v1, v2, v3, v4, v5, v6, v7, v8, v9])), (h1, .inr (6, [v10, v11, v12, v13, v14, v15, v16, v17, v18, v19, v20, v21, v22, v23, v24, v25, v26, v27, v28, v29, v30, v31, v32, v33, v34, v35, v36]))] H) (hD : va_D A [(h0, .inr (5, [v0, v1, v2, v3, v4, v5, v6, v7, v8, v9])), (h1, .inr (6, [v10, v11, v12, v13, v14, v15, v16, v17, v18, v19, v20, v21, v22, v23, v24, v25, v26, v27, v28, v29, v30, v31, v32, v33, v34, v35, v36]))]) (hK : va_K D vwCl [] s) (hS : va_S A s.heap H locs) (hl : lv_has ls 9 [(4, .int 0), (3, .ref h2), (2, .ref h1), (1, .ref h0), (0, .ref b)]) (kk : ∀ (H : Heap) (locs : List Loc) (ls : Array Slot), va_S A s.heap H locs → lv_has ls 9 [(4, .int 0), (0, .ref b)] → W p l e room_1 s m #[Value.ref b] below meth c H locs 3000 30000 Q (F0 m 2199 ls [])) : W p l e room_1 s m #[Value.ref b] below meth c H locs 1010 8898 Q (F0 m 419 ls []) := by
  have d0 : p1.toInt < 0 ∨ 8 < p1.toInt := (by omega)
  have d1 : (lg_cmp p1.toInt64 0) < 0 := lgq1 (by have h0 : (0 : Int64).toInt = 0 := (by decide); have hp1 := i2lI p1; omega)
  refine lv_aload_n hx hb dL_law_419 rfl (lv_at hl 3 rfl) ?_
  refine lv_aload_n hx hb dL_law_420 rfl (lv_at hl 4 rfl) ?_
  refine lv_iload hx hb dL_law_421 (lv_at hl 0 rfl) ?_
  refine lv_iconst (v := 1) hx hb dL_law_423 (by decide) ?_
  refine lv_iadd hx hb dL_law_424 ?_
  refine ti (1) (by decide) ?_
  refine va_sld hx hb hXs hbl hbA hS (vin (by decide)) dL_law_425 ?_
  refine ti p1 e1 ?_
  refine lv_aload_n hx hb dL_law_426 rfl (lv_at hl 1 rfl) ?_
  refine cHi (n := 3) (As := [.ref h0, .int p1, .ref h2]) (rest := []) (wr := [(h0, .inr (5, [v0, v1, v2, v3, v4, v5, v6, v7, v8, v9])), (h1, .inr (6, [v10, v11, v12, v13, v14, v15, v16, v17, v18, v19, v20, v21, v22, v23, v24, v25, v26, v27, v28, v29, v30, v31, v32, v33, v34, v35, v36]))]) (tr := []) hx hb hml hown hg okXX (cL_count_605 l D hlt h0 p1 h2 v0 v1 v2 v3 v4 v5 v6 v7 v8 v9 d0) (mwHS k834 k835 k83 k836) ⟨by decide, by decide, by decide +kernel⟩ ⟨rfl, rfl, (Nat.le_of_ble_eq_true rfl), (Nat.le_of_ble_eq_true rfl)⟩ hP hD hK hS (okXX.2.2 _ _ _ _ hS.2.1 hX) [0] [] [0, 1] [] [] rfl (by decide) rfl rfl (by decide) (by decide) rfl rfl (aNil hA hS) (aNil hA hS) rfl hl.1 rfl (Nat.le_of_ble_eq_true rfl) dL_law_427 ⟨(Nat.le_of_ble_eq_true rfl), (Nat.le_of_ble_eq_true rfl)⟩ (fun u H locs hφ hP hD hK hS hk => ?_)
  have hP : va_P D vwCl [(h0, .inr (5, [v0, v1, v2, v3, v4, v5, v6, v7, v8, v9])), (h1, .inr (6, [v10, v11, v12, v13, v14, v15, v16, v17, v18, v19, v20, v21, v22, v23, v24, v25, v26, v27, v28, v29, v30, v31, v32, v33, v34, v35, v36]))] H := hP
  have hD : va_D A [(h0, .inr (5, [v0, v1, v2, v3, v4, v5, v6, v7, v8, v9])), (h1, .inr (6, [v10, v11, v12, v13, v14, v15, v16, v17, v18, v19, v20, v21, v22, v23, v24, v25, v26, v27, v28, v29, v30, v31, v32, v33, v34, v35, v36]))] := hD
  have hK : va_K D vwCl [] s := hK
  refine W.widen (k := 1011) (n := 8904) (Nat.le_of_ble_eq_true rfl) (Nat.le_of_ble_eq_true rfl) ?_
  refine lv_istore (lv' := [(5, .int 1), (4, .int 0), (3, .ref h2), (2, .ref h1), (1, .ref h0), (0, .ref b)]) hx hb dL_law_430 hl (by decide) rfl (fun ls hl => ?_)
  refine lv_aload_n hx hb dL_law_432 rfl (lv_at hl 3 rfl) ?_
  refine lv_aload_n hx hb dL_law_433 rfl (lv_at hl 5 rfl) ?_
  refine lv_iload hx hb dL_law_434 (lv_at hl 1 rfl) ?_
  refine lv_iconst (v := 1) hx hb dL_law_436 (by decide) ?_
  refine lv_iadd hx hb dL_law_437 ?_
  refine ti (1) (by decide) ?_
  refine va_sld hx hb hXs hbl hbA hS (vin (by decide)) dL_law_438 ?_
  refine ti p1 e1 ?_
  refine cVi (n := 1) (As := [.int p1]) (rest := []) (wr := [(h0, .inr (5, [v0, v1, v2, v3, v4, v5, v6, v7, v8, v9]))]) (tr := []) hx hb hml hown hg okN (cX6_count_28 l D h1 p1 v10 v11 v12 v13 v14 v15 v16 v17 v18 v19 v20 v21 v22 v23 v24 v25 v26 v27 v28 v29 v30 v31 v32 v33 v34 v35 v36 d1) (mwV k1407 k1408 k1409 k92 k1410) ⟨rfl, by decide, by decide, by decide +kernel⟩ ⟨rfl, rfl, (Nat.le_of_ble_eq_true rfl), (Nat.le_of_ble_eq_true rfl)⟩ hP hD hK hS xn [1] [1] [0] [] [] rfl (by decide) rfl rfl (by decide) (by decide) rfl rfl (va_free hD hS hA [1] rfl) (va_free hD hS hA [1] rfl) 1 rfl rfl rfl hl.1 rfl (Nat.le_of_ble_eq_true rfl) dL_law_439 ⟨(Nat.le_of_ble_eq_true rfl), (Nat.le_of_ble_eq_true rfl)⟩ (fun u H locs hφ hP hD hK hS hk => ?_)
  have hP : va_P D vwCl [(h0, .inr (5, [v0, v1, v2, v3, v4, v5, v6, v7, v8, v9])), (h1, .inr (6, [.int 1, v11, v12, v13, v14, v15, v16, v17, v18, v19, v20, v21, v22, v23, v24, v25, v26, v27, v28, v29, v30, v31, v32, v33, v34, v35, v36]))] H := hP
  have hD : va_D A [(h0, .inr (5, [v0, v1, v2, v3, v4, v5, v6, v7, v8, v9])), (h1, .inr (6, [.int 1, v11, v12, v13, v14, v15, v16, v17, v18, v19, v20, v21, v22, v23, v24, v25, v26, v27, v28, v29, v30, v31, v32, v33, v34, v35, v36]))] := hD
  have hK : va_K D vwCl [] s := hK
  refine W.widen (k := 1011) (n := 8904) (Nat.le_of_ble_eq_true rfl) (Nat.le_of_ble_eq_true rfl) ?_
  refine lv_istore (lv' := [(6, .int 0), (5, .int 1), (4, .int 0), (3, .ref h2), (2, .ref h1), (1, .ref h0), (0, .ref b)]) hx hb dL_law_442 hl (by decide) rfl (fun ls hl => ?_)
  refine lv_aload_n hx hb dL_law_444 rfl (lv_at hl 4 rfl) ?_
  refine cVi (n := 0) (As := []) (rest := []) (wr := [(h0, .inr (5, [v0, v1, v2, v3, v4, v5, v6, v7, v8, v9])), (h1, .inr (6, [.int 1, v11, v12, v13, v14, v15, v16, v17, v18, v19, v20, v21, v22, v23, v24, v25, v26, v27, v28, v29, v30, v31, v32, v33, v34, v35, v36]))]) (tr := []) hx hb hml hown hg okN (cX6_thrown_601 l D h1 v11 v12 v13 v14 v15 v16 v17 v18 v19 v20 v21 v22 v23 v24 v25 v26 v27 v28 v29 v30 v31 v32 v33 v34 v35 v36) (mwV k1301 k1302 k1303 k92 k1304) ⟨rfl, by decide, by decide, by decide +kernel⟩ ⟨rfl, rfl, (Nat.le_of_ble_eq_true rfl), (Nat.le_of_ble_eq_true rfl)⟩ hP hD hK hS xn [1] [] [0, 1] [] [] rfl (by decide) rfl rfl (by decide) (by decide) rfl rfl (aNil hA hS) (aNil hA hS) 1 rfl rfl rfl hl.1 rfl (Nat.le_of_ble_eq_true rfl) dL_law_445 ⟨(Nat.le_of_ble_eq_true rfl), (Nat.le_of_ble_eq_true rfl)⟩ (fun u H locs hφ hP hD hK hS hk => ?_)
  have hP : va_P D vwCl [(h0, .inr (5, [v0, v1, v2, v3, v4, v5, v6, v7, v8, v9])), (h1, .inr (6, [.int 1, v11, v12, v13, v14, v15, v16, v17, v18, v19, v20, v21, v22, v23, v24, v25, v26, v27, v28, v29, v30, v31, v32, v33, v34, v35, v36]))] H := hP
  have hD : va_D A [(h0, .inr (5, [v0, v1, v2, v3, v4, v5, v6, v7, v8, v9])), (h1, .inr (6, [.int 1, v11, v12, v13, v14, v15, v16, v17, v18, v19, v20, v21, v22, v23, v24, v25, v26, v27, v28, v29, v30, v31, v32, v33, v34, v35, v36]))] := hD
  have hK : va_K D vwCl [] s := hK
  refine W.widen (k := 1011) (n := 8904) (Nat.le_of_ble_eq_true rfl) (Nat.le_of_ble_eq_true rfl) ?_
  refine lv_iload hx hb dL_law_448 (lv_at hl 1 rfl) ?_
  refine lv_icmp_eq (tgt := 455) hx hb dL_law_450 (by decide) (fun _ => ?_) (fun c9 => absurd (by decide) c9)
  refine lv_iload hx hb dL_law_455 (lv_at hl 1 rfl) ?_
  refine lv_if_ne (tgt := 472) hx hb dL_law_457 (by decide) (fun _ => ?_) (fun c9 => absurd c9 (by decide))
  refine lv_goto (tgt := 2199) hx hb dL_law_472 (by decide) ?_
  refine W.widen (k := 3000) (n := 30000) (Nat.le_of_ble_eq_true rfl) (Nat.le_of_ble_eq_true rfl) ?_
  exact kk _ _ _ hS (lv_sub hl [2, 6] rfl)
set_option maxHeartbeats 4000000 in
set_option maxRecDepth 100000 in
theorem law_5_1 {p : Program} {e : Env} {s : State} {m : MethodId} {below : List Frame} {meth : Method} {c : Code} (l : Launch) (hlt : l.stackTraces = false) {b : Nat} {xs : Nat → Int32} (hx : p.tables.exec = Jvm.exec) (hb : c.code = cL_law) (hml : c.maxLocals = 9) (hown : s.vm.findClass RL = some m.cls) (hg : ∀ w ∈ GW, w.before #[Value.ref b] s = true) (hXs : va_X b 6 xs s s.heap) (hbl : b < s.heap.size) (D : va_G) {A : Nat → Prop} (hA : ∀ q, s.heap.size ≤ q → A q) (hbA : ¬ A b) (hX : XX A s s.heap) (Q : State → Prop) (h0 : Nat) (h1 : Nat) (h2 : Nat) (h3 : Nat) (v0 : Value) (v1 : Value) (v2 : Value) (v3 : Value) (v4 : Value) (v5 : Value) (v6 : Value) (v7 : Value) (v8 : Value) (v9 : Value) (v10 : Value) (v11 : Value) (v12 : Value) (v13 : Value) (v14 : Value) (f0 : Nat → Int64) (v15 : Value) (v16 : Value) (v17 : Value) (v18 : Value) (v19 : Value) (v20 : Value) (v21 : Value) (v22 : Value) (v23 : Value) (v24 : Value) (v25 : Value) (v26 : Value) (v27 : Value) (v28 : Value) (v29 : Value) (v30 : Value) (v31 : Value) (v32 : Value) (v33 : Value) (v34 : Value) (v35 : Value) (v36 : Value) (v37 : Value) (v38 : Value) (v39 : Value) (v40 : Value) (a0 : ClassId)  (e1 : xs 1 = 0) {H : Heap} {locs : List Loc} {ls : Array Slot} (hP : va_P D vwCl [(h0, .inr (5, [v0, .ref h1, v1, v2, v3, v4, v5, v6, v7, v8])), (h1, .inr (0, [v9, v10, .int 2, v11, v12, v13, v14])), (h2, .inl (a0, 1, .inr (.inl f0))), (h3, .inr (6, [v15, v16, v17, v18, v19, v20, v21, .int 2, v22, v23, v24, v25, v26, v27, v28, v29, v30, v31, v32, v33, v34, v35, v36, v37, v38, v39, v40]))] H) (hD : va_D A [(h0, .inr (5, [v0, .ref h1, v1, v2, v3, v4, v5, v6, v7, v8])), (h1, .inr (0, [v9, v10, .int 2, v11, v12, v13, v14])), (h2, .inl (a0, 1, .inr (.inl f0))), (h3, .inr (6, [v15, v16, v17, v18, v19, v20, v21, .int 2, v22, v23, v24, v25, v26, v27, v28, v29, v30, v31, v32, v33, v34, v35, v36, v37, v38, v39, v40]))]) (hK : va_K D vwCl [(a0, .long)] s) (hS : va_S A s.heap H locs) (hl : lv_has ls 9 [(4, .int 0), (3, .ref h2), (2, .ref h3), (1, .ref h0), (0, .ref b)]) (kk : ∀ (H : Heap) (locs : List Loc) (ls : Array Slot), va_S A s.heap H locs → lv_has ls 9 [(4, .int 0), (0, .ref b)] → W p l e room_1 s m #[Value.ref b] below meth c H locs 3000 30000 Q (F0 m 2199 ls [])) : W p l e room_1 s m #[Value.ref b] below meth c H locs 1010 8898 Q (F0 m 419 ls []) := by
  refine lv_aload_n hx hb dL_law_419 rfl (lv_at hl 3 rfl) ?_
  refine lv_aload_n hx hb dL_law_420 rfl (lv_at hl 4 rfl) ?_
  refine lv_iload hx hb dL_law_421 (lv_at hl 0 rfl) ?_
  refine lv_iconst (v := 1) hx hb dL_law_423 (by decide) ?_
  refine lv_iadd hx hb dL_law_424 ?_
  refine ti (1) (by decide) ?_
  refine va_sld hx hb hXs hbl hbA hS (vin (by decide)) dL_law_425 ?_
  refine ti 0 e1 ?_
  refine lv_aload_n hx hb dL_law_426 rfl (lv_at hl 1 rfl) ?_
  refine cHi (n := 3) (As := [.ref h0, .int 0, .ref h2]) (rest := []) (wr := [(h3, .inr (6, [v15, v16, v17, v18, v19, v20, v21, .int 2, v22, v23, v24, v25, v26, v27, v28, v29, v30, v31, v32, v33, v34, v35, v36, v37, v38, v39, v40]))]) (tr := []) hx hb hml hown hg okN (cL_count_606 l D h0 h2 h1 v0 v1 v2 v3 v4 v5 v6 v7 v8 f0 v9 v10 v11 v12 v13 v14 a0) (mwHS k834 k835 k83 k836) ⟨by decide, by decide, by decide +kernel⟩ ⟨rfl, rfl, (Nat.le_of_ble_eq_true rfl), (Nat.le_of_ble_eq_true rfl)⟩ hP hD hK hS xn [0, 2, 1] [0, 2, 1] [3] [0] [] rfl (by decide) rfl rfl (by decide) (by decide) rfl rfl (va_free hD hS hA [0, 2, 1] rfl) (va_free hD hS hA [0, 2, 1] rfl) rfl hl.1 rfl (Nat.le_of_ble_eq_true rfl) dL_law_427 ⟨(Nat.le_of_ble_eq_true rfl), (Nat.le_of_ble_eq_true rfl)⟩ (fun u H locs hφ hP hD hK hS hk => ?_)
  have hP : va_P D vwCl [(h3, .inr (6, [v15, v16, v17, v18, v19, v20, v21, .int 2, v22, v23, v24, v25, v26, v27, v28, v29, v30, v31, v32, v33, v34, v35, v36, v37, v38, v39, v40])), (h0, .inr (5, [v0, .ref h1, v1, v2, v3, v4, v5, v6, v7, v8])), (h2, .inl (a0, 1, .inr (.inl (vp_updL f0 0 2)))), (h1, .inr (0, [v9, v10, .int 2, v11, v12, v13, v14]))] H := hP
  have hD : va_D A [(h3, .inr (6, [v15, v16, v17, v18, v19, v20, v21, .int 2, v22, v23, v24, v25, v26, v27, v28, v29, v30, v31, v32, v33, v34, v35, v36, v37, v38, v39, v40])), (h0, .inr (5, [v0, .ref h1, v1, v2, v3, v4, v5, v6, v7, v8])), (h2, .inl (a0, 1, .inr (.inl (vp_updL f0 0 2)))), (h1, .inr (0, [v9, v10, .int 2, v11, v12, v13, v14]))] := hD
  have hK : va_K D vwCl [(a0, .long)] s := hK
  refine W.widen (k := 1010) (n := 8898) (Nat.le_of_ble_eq_true rfl) (Nat.le_of_ble_eq_true rfl) ?_
  refine lv_istore (lv' := [(5, .int 0), (4, .int 0), (3, .ref h2), (2, .ref h3), (1, .ref h0), (0, .ref b)]) hx hb dL_law_430 hl (by decide) rfl (fun ls hl => ?_)
  refine lv_aload_n hx hb dL_law_432 rfl (lv_at hl 3 rfl) ?_
  refine lv_aload_n hx hb dL_law_433 rfl (lv_at hl 5 rfl) ?_
  refine lv_iload hx hb dL_law_434 (lv_at hl 1 rfl) ?_
  refine lv_iconst (v := 1) hx hb dL_law_436 (by decide) ?_
  refine lv_iadd hx hb dL_law_437 ?_
  refine ti (1) (by decide) ?_
  refine va_sld hx hb hXs hbl hbA hS (vin (by decide)) dL_law_438 ?_
  refine ti 0 e1 ?_
  refine cVi (n := 1) (As := [.int 0]) (rest := []) (wr := [(h0, .inr (5, [v0, .ref h1, v1, v2, v3, v4, v5, v6, v7, v8])), (h2, .inl (a0, 1, .inr (.inl (vp_updL f0 0 2)))), (h1, .inr (0, [v9, v10, .int 2, v11, v12, v13, v14]))]) (tr := [(a0, .long)]) hx hb hml hown hg okN (cX6_count_30 l D h3 v15 v16 v17 v18 v19 v20 v21 v22 v23 v24 v25 v26 v27 v28 v29 v30 v31 v32 v33 v34 v35 v36 v37 v38 v39 v40) (mwV k1407 k1408 k1409 k92 k1410) ⟨rfl, by decide, by decide, by decide +kernel⟩ ⟨rfl, rfl, (Nat.le_of_ble_eq_true rfl), (Nat.le_of_ble_eq_true rfl)⟩ hP hD hK hS xn [0] [0] [1, 2, 3] [] [0] rfl (by decide) rfl rfl (by decide) (by decide) rfl rfl (va_free hD hS hA [0] rfl) (va_free hD hS hA [0] rfl) 0 rfl rfl rfl hl.1 rfl (Nat.le_of_ble_eq_true rfl) dL_law_439 ⟨(Nat.le_of_ble_eq_true rfl), (Nat.le_of_ble_eq_true rfl)⟩ (fun u H locs hφ hP hD hK hS hk => ?_)
  have hP : va_P D vwCl [(h0, .inr (5, [v0, .ref h1, v1, v2, v3, v4, v5, v6, v7, v8])), (h2, .inl (a0, 1, .inr (.inl (vp_updL f0 0 2)))), (h1, .inr (0, [v9, v10, .int 2, v11, v12, v13, v14])), (h3, .inr (6, [.int 0, v16, v17, v18, v19, v20, v21, .int 2, v22, v23, v24, v25, v26, v27, v28, v29, v30, v31, v32, v33, v34, v35, v36, v37, v38, v39, v40]))] H := hP
  have hD : va_D A [(h0, .inr (5, [v0, .ref h1, v1, v2, v3, v4, v5, v6, v7, v8])), (h2, .inl (a0, 1, .inr (.inl (vp_updL f0 0 2)))), (h1, .inr (0, [v9, v10, .int 2, v11, v12, v13, v14])), (h3, .inr (6, [.int 0, v16, v17, v18, v19, v20, v21, .int 2, v22, v23, v24, v25, v26, v27, v28, v29, v30, v31, v32, v33, v34, v35, v36, v37, v38, v39, v40]))] := hD
  have hK : va_K D vwCl [(a0, .long)] s := hK
  refine W.widen (k := 1010) (n := 8898) (Nat.le_of_ble_eq_true rfl) (Nat.le_of_ble_eq_true rfl) ?_
  refine lv_istore (lv' := [(6, .int 2), (5, .int 0), (4, .int 0), (3, .ref h2), (2, .ref h3), (1, .ref h0), (0, .ref b)]) hx hb dL_law_442 hl (by decide) rfl (fun ls hl => ?_)
  refine lv_aload_n hx hb dL_law_444 rfl (lv_at hl 4 rfl) ?_
  refine cVi (n := 0) (As := []) (rest := []) (wr := [(h0, .inr (5, [v0, .ref h1, v1, v2, v3, v4, v5, v6, v7, v8])), (h2, .inl (a0, 1, .inr (.inl (vp_updL f0 0 2)))), (h1, .inr (0, [v9, v10, .int 2, v11, v12, v13, v14])), (h3, .inr (6, [.int 0, v16, v17, v18, v19, v20, v21, .int 2, v22, v23, v24, v25, v26, v27, v28, v29, v30, v31, v32, v33, v34, v35, v36, v37, v38, v39, v40]))]) (tr := [(a0, .long)]) hx hb hml hown hg okN (cX6_thrown_1 l D h3 v16 v17 v18 v19 v20 v21 (.int 2) v22 v23 v24 v25 v26 v27 v28 v29 v30 v31 v32 v33 v34 v35 v36 v37 v38 v39 v40) (mwV k1301 k1302 k1303 k92 k1304) ⟨rfl, by decide, by decide, by decide +kernel⟩ ⟨rfl, rfl, (Nat.le_of_ble_eq_true rfl), (Nat.le_of_ble_eq_true rfl)⟩ hP hD hK hS xn [3] [] [0, 1, 2, 3] [] [0] rfl (by decide) rfl rfl (by decide) (by decide) rfl rfl (aNil hA hS) (aNil hA hS) 3 rfl rfl rfl hl.1 rfl (Nat.le_of_ble_eq_true rfl) dL_law_445 ⟨(Nat.le_of_ble_eq_true rfl), (Nat.le_of_ble_eq_true rfl)⟩ (fun u H locs hφ hP hD hK hS hk => ?_)
  have hP : va_P D vwCl [(h0, .inr (5, [v0, .ref h1, v1, v2, v3, v4, v5, v6, v7, v8])), (h2, .inl (a0, 1, .inr (.inl (vp_updL f0 0 2)))), (h1, .inr (0, [v9, v10, .int 2, v11, v12, v13, v14])), (h3, .inr (6, [.int 0, v16, v17, v18, v19, v20, v21, .int 2, v22, v23, v24, v25, v26, v27, v28, v29, v30, v31, v32, v33, v34, v35, v36, v37, v38, v39, v40]))] H := hP
  have hD : va_D A [(h0, .inr (5, [v0, .ref h1, v1, v2, v3, v4, v5, v6, v7, v8])), (h2, .inl (a0, 1, .inr (.inl (vp_updL f0 0 2)))), (h1, .inr (0, [v9, v10, .int 2, v11, v12, v13, v14])), (h3, .inr (6, [.int 0, v16, v17, v18, v19, v20, v21, .int 2, v22, v23, v24, v25, v26, v27, v28, v29, v30, v31, v32, v33, v34, v35, v36, v37, v38, v39, v40]))] := hD
  have hK : va_K D vwCl [(a0, .long)] s := hK
  refine W.widen (k := 1010) (n := 8898) (Nat.le_of_ble_eq_true rfl) (Nat.le_of_ble_eq_true rfl) ?_
  refine lv_iload hx hb dL_law_448 (lv_at hl 1 rfl) ?_
  refine lv_icmp_eq (tgt := 455) hx hb dL_law_450 (by decide) (fun _ => ?_) (fun c9 => absurd (by decide) c9)
  refine lv_iload hx hb dL_law_455 (lv_at hl 1 rfl) ?_
  refine lv_if_ne (tgt := 472) hx hb dL_law_457 (by decide) (fun c9 => absurd (by decide) c9) (fun _ => ?_)
  refine lv_aload_n hx hb dL_law_460 rfl (lv_at hl 3 rfl) ?_
  refine lv_iconst (v := 0) hx hb dL_law_461 (by decide) ?_
  refine aldL hx hb hK hP 1 0 rfl rfl 0 (by decide) (vin (by decide)) (v := 2) rfl dL_law_462 ?_
  refine lv_iload hx hb dL_law_463 (lv_at hl 0 rfl) ?_
  refine lv_i2l (v := 2) hx hb dL_law_465 (by decide) ?_
  refine W.lcmp hx hb dL_law_466 ?_
  refine ti (0) (by decide) ?_
  refine lv_if_eq (tgt := 472) hx hb dL_law_467 (by decide) (fun _ => ?_) (fun c9 => absurd (by decide) c9)
  refine lv_goto (tgt := 2199) hx hb dL_law_472 (by decide) ?_
  refine W.widen (k := 3000) (n := 30000) (Nat.le_of_ble_eq_true rfl) (Nat.le_of_ble_eq_true rfl) ?_
  exact kk _ _ _ hS (lv_sub hl [2, 6] rfl)
set_option maxHeartbeats 4000000 in
set_option maxRecDepth 100000 in
theorem law_5_2 {p : Program} {e : Env} {s : State} {m : MethodId} {below : List Frame} {meth : Method} {c : Code} (l : Launch) (hlt : l.stackTraces = false) {b : Nat} {xs : Nat → Int32} (hx : p.tables.exec = Jvm.exec) (hb : c.code = cL_law) (hml : c.maxLocals = 9) (hown : s.vm.findClass RL = some m.cls) (hg : ∀ w ∈ GW, w.before #[Value.ref b] s = true) (hXs : va_X b 6 xs s s.heap) (hbl : b < s.heap.size) (D : va_G) {A : Nat → Prop} (hA : ∀ q, s.heap.size ≤ q → A q) (hbA : ¬ A b) (hX : XX A s s.heap) (Q : State → Prop) (h0 : Nat) (h1 : Nat) (h2 : Nat) (h3 : Nat) (h4 : Nat) (h5 : Nat) (v0 : Value) (v1 : Value) (v2 : Value) (v3 : Value) (v4 : Value) (v5 : Value) (v6 : Value) (v7 : Value) (v8 : Value) (v9 : Value) (v10 : Value) (v11 : Value) (v12 : Value) (v13 : Value) (v14 : Value) (v15 : Value) (v16 : Value) (v17 : Value) (v18 : Value) (v19 : Value) (v20 : Value) (v21 : Value) (v22 : Value) (v23 : Value) (v24 : Value) (v25 : Value) (f0 : Nat → Int64) (v26 : Value) (v27 : Value) (v28 : Value) (v29 : Value) (v30 : Value) (v31 : Value) (v32 : Value) (v33 : Value) (v34 : Value) (v35 : Value) (v36 : Value) (v37 : Value) (v38 : Value) (v39 : Value) (v40 : Value) (v41 : Value) (v42 : Value) (v43 : Value) (v44 : Value) (v45 : Value) (v46 : Value) (v47 : Value) (v48 : Value) (v49 : Value) (v50 : Value) (f1 : Nat → Int64) (a0 : ClassId) (a1 : ClassId) (ef1_4 : f1 4 = 0) (e1 : xs 1 = 1) {H : Heap} {locs : List Loc} {ls : Array Slot} (hP : va_P D vwCl [(h0, .inr (5, [v0, v1, v2, .ref h1, v3, v4, v5, v6, v7, v8])), (h1, .inr (1, [.ref h2, v9, v10, v11, v12, .int 0, v13, v14, v15, v16, v17, v18, v19])), (h2, .inr (0, [v20, v21, .int 2, v22, v23, v24, v25])), (h3, .inl (a0, 1, .inr (.inl f0))), (h4, .inr (6, [v26, .ref h5, v27, v28, v29, v30, v31, .int 2, v32, v33, v34, v35, v36, v37, v38, v39, v40, v41, v42, v43, v44, v45, v46, v47, v48, v49, v50])), (h5, .inl (a1, 609, .inr (.inl f1)))] H) (hD : va_D A [(h0, .inr (5, [v0, v1, v2, .ref h1, v3, v4, v5, v6, v7, v8])), (h1, .inr (1, [.ref h2, v9, v10, v11, v12, .int 0, v13, v14, v15, v16, v17, v18, v19])), (h2, .inr (0, [v20, v21, .int 2, v22, v23, v24, v25])), (h3, .inl (a0, 1, .inr (.inl f0))), (h4, .inr (6, [v26, .ref h5, v27, v28, v29, v30, v31, .int 2, v32, v33, v34, v35, v36, v37, v38, v39, v40, v41, v42, v43, v44, v45, v46, v47, v48, v49, v50])), (h5, .inl (a1, 609, .inr (.inl f1)))]) (hK : va_K D vwCl [(a0, .long), (a1, .long)] s) (hS : va_S A s.heap H locs) (hl : lv_has ls 9 [(4, .int 0), (3, .ref h3), (2, .ref h4), (1, .ref h0), (0, .ref b)]) (kk : ∀ (H : Heap) (locs : List Loc) (ls : Array Slot), va_S A s.heap H locs → lv_has ls 9 [(4, .int 0), (0, .ref b)] → W p l e room_1 s m #[Value.ref b] below meth c H locs 3000 30000 Q (F0 m 2199 ls [])) : W p l e room_1 s m #[Value.ref b] below meth c H locs 1010 8898 Q (F0 m 419 ls []) := by
  refine lv_aload_n hx hb dL_law_419 rfl (lv_at hl 3 rfl) ?_
  refine lv_aload_n hx hb dL_law_420 rfl (lv_at hl 4 rfl) ?_
  refine lv_iload hx hb dL_law_421 (lv_at hl 0 rfl) ?_
  refine lv_iconst (v := 1) hx hb dL_law_423 (by decide) ?_
  refine lv_iadd hx hb dL_law_424 ?_
  refine ti (1) (by decide) ?_
  refine va_sld hx hb hXs hbl hbA hS (vin (by decide)) dL_law_425 ?_
  refine ti 1 e1 ?_
  refine lv_aload_n hx hb dL_law_426 rfl (lv_at hl 1 rfl) ?_
  refine cHi (n := 3) (As := [.ref h0, .int 1, .ref h3]) (rest := []) (wr := [(h4, .inr (6, [v26, .ref h5, v27, v28, v29, v30, v31, .int 2, v32, v33, v34, v35, v36, v37, v38, v39, v40, v41, v42, v43, v44, v45, v46, v47, v48, v49, v50])), (h5, .inl (a1, 609, .inr (.inl f1)))]) (tr := [(a1, .long)]) hx hb hml hown hg okN (cL_count_607 l D h0 h3 h1 h2 v0 v1 v2 v3 v4 v5 v6 v7 v8 f0 v9 v10 v11 v12 v13 v14 v15 v16 v17 v18 v19 v20 v21 v22 v23 v24 v25 a0) (mwHS k834 k835 k83 k836) ⟨by decide, by decide, by decide +kernel⟩ ⟨rfl, rfl, (Nat.le_of_ble_eq_true rfl), (Nat.le_of_ble_eq_true rfl)⟩ hP hD hK hS xn [0, 3, 1, 2] [0, 3, 1, 2] [4, 5] [0] [1] rfl (by decide) rfl rfl (by decide) (by decide) rfl rfl (va_free hD hS hA [0, 3, 1, 2] rfl) (va_free hD hS hA [0, 3, 1, 2] rfl) rfl hl.1 rfl (Nat.le_of_ble_eq_true rfl) dL_law_427 ⟨(Nat.le_of_ble_eq_true rfl), (Nat.le_of_ble_eq_true rfl)⟩ (fun u H locs hφ hP hD hK hS hk => ?_)
  have hP : va_P D vwCl [(h4, .inr (6, [v26, .ref h5, v27, v28, v29, v30, v31, .int 2, v32, v33, v34, v35, v36, v37, v38, v39, v40, v41, v42, v43, v44, v45, v46, v47, v48, v49, v50])), (h5, .inl (a1, 609, .inr (.inl f1))), (h0, .inr (5, [v0, v1, v2, .ref h1, v3, v4, v5, v6, v7, v8])), (h3, .inl (a0, 1, .inr (.inl (vp_updL f0 0 2)))), (h1, .inr (1, [.ref h2, v9, v10, v11, v12, .int 0, v13, v14, v15, v16, v17, v18, v19])), (h2, .inr (0, [v20, v21, .int 2, v22, v23, v24, v25]))] H := hP
  have hD : va_D A [(h4, .inr (6, [v26, .ref h5, v27, v28, v29, v30, v31, .int 2, v32, v33, v34, v35, v36, v37, v38, v39, v40, v41, v42, v43, v44, v45, v46, v47, v48, v49, v50])), (h5, .inl (a1, 609, .inr (.inl f1))), (h0, .inr (5, [v0, v1, v2, .ref h1, v3, v4, v5, v6, v7, v8])), (h3, .inl (a0, 1, .inr (.inl (vp_updL f0 0 2)))), (h1, .inr (1, [.ref h2, v9, v10, v11, v12, .int 0, v13, v14, v15, v16, v17, v18, v19])), (h2, .inr (0, [v20, v21, .int 2, v22, v23, v24, v25]))] := hD
  have hK : va_K D vwCl [(a1, .long), (a0, .long)] s := hK
  refine W.widen (k := 1010) (n := 8898) (Nat.le_of_ble_eq_true rfl) (Nat.le_of_ble_eq_true rfl) ?_
  refine lv_istore (lv' := [(5, .int 0), (4, .int 0), (3, .ref h3), (2, .ref h4), (1, .ref h0), (0, .ref b)]) hx hb dL_law_430 hl (by decide) rfl (fun ls hl => ?_)
  refine lv_aload_n hx hb dL_law_432 rfl (lv_at hl 3 rfl) ?_
  refine lv_aload_n hx hb dL_law_433 rfl (lv_at hl 5 rfl) ?_
  refine lv_iload hx hb dL_law_434 (lv_at hl 1 rfl) ?_
  refine lv_iconst (v := 1) hx hb dL_law_436 (by decide) ?_
  refine lv_iadd hx hb dL_law_437 ?_
  refine ti (1) (by decide) ?_
  refine va_sld hx hb hXs hbl hbA hS (vin (by decide)) dL_law_438 ?_
  refine ti 1 e1 ?_
  refine cVi (n := 1) (As := [.int 1]) (rest := []) (wr := [(h0, .inr (5, [v0, v1, v2, .ref h1, v3, v4, v5, v6, v7, v8])), (h3, .inl (a0, 1, .inr (.inl (vp_updL f0 0 2)))), (h1, .inr (1, [.ref h2, v9, v10, v11, v12, .int 0, v13, v14, v15, v16, v17, v18, v19])), (h2, .inr (0, [v20, v21, .int 2, v22, v23, v24, v25]))]) (tr := [(a0, .long)]) hx hb hml hown hg okN (cX6_count_32 l D h4 h5 v26 v27 v28 v29 v30 v31 v32 v33 v34 v35 v36 v37 v38 v39 v40 v41 v42 v43 v44 v45 v46 v47 v48 v49 v50 f1 a1 ef1_4) (mwV k1407 k1408 k1409 k92 k1410) ⟨rfl, by decide, by decide, by decide +kernel⟩ ⟨rfl, rfl, (Nat.le_of_ble_eq_true rfl), (Nat.le_of_ble_eq_true rfl)⟩ hP hD hK hS xn [0, 1] [0, 1] [2, 3, 4, 5] [0] [1] rfl (by decide) rfl rfl (by decide) (by decide) rfl rfl (va_free hD hS hA [0, 1] rfl) (va_free hD hS hA [0, 1] rfl) 0 rfl rfl rfl hl.1 rfl (Nat.le_of_ble_eq_true rfl) dL_law_439 ⟨(Nat.le_of_ble_eq_true rfl), (Nat.le_of_ble_eq_true rfl)⟩ (fun u H locs hφ hP hD hK hS hk => ?_)
  have hP : va_P D vwCl [(h0, .inr (5, [v0, v1, v2, .ref h1, v3, v4, v5, v6, v7, v8])), (h3, .inl (a0, 1, .inr (.inl (vp_updL f0 0 2)))), (h1, .inr (1, [.ref h2, v9, v10, v11, v12, .int 0, v13, v14, v15, v16, v17, v18, v19])), (h2, .inr (0, [v20, v21, .int 2, v22, v23, v24, v25])), (h4, .inr (6, [.int 0, .ref h5, v27, v28, v29, v30, v31, .int 2, v32, v33, v34, v35, v36, v37, v38, v39, v40, v41, v42, v43, v44, v45, v46, v47, v48, v49, v50])), (h5, .inl (a1, 609, .inr (.inl f1)))] H := hP
  have hD : va_D A [(h0, .inr (5, [v0, v1, v2, .ref h1, v3, v4, v5, v6, v7, v8])), (h3, .inl (a0, 1, .inr (.inl (vp_updL f0 0 2)))), (h1, .inr (1, [.ref h2, v9, v10, v11, v12, .int 0, v13, v14, v15, v16, v17, v18, v19])), (h2, .inr (0, [v20, v21, .int 2, v22, v23, v24, v25])), (h4, .inr (6, [.int 0, .ref h5, v27, v28, v29, v30, v31, .int 2, v32, v33, v34, v35, v36, v37, v38, v39, v40, v41, v42, v43, v44, v45, v46, v47, v48, v49, v50])), (h5, .inl (a1, 609, .inr (.inl f1)))] := hD
  have hK : va_K D vwCl [(a0, .long), (a1, .long)] s := hK
  refine W.widen (k := 1010) (n := 8898) (Nat.le_of_ble_eq_true rfl) (Nat.le_of_ble_eq_true rfl) ?_
  refine lv_istore (lv' := [(6, .int 2), (5, .int 0), (4, .int 0), (3, .ref h3), (2, .ref h4), (1, .ref h0), (0, .ref b)]) hx hb dL_law_442 hl (by decide) rfl (fun ls hl => ?_)
  refine lv_aload_n hx hb dL_law_444 rfl (lv_at hl 4 rfl) ?_
  refine cVi (n := 0) (As := []) (rest := []) (wr := [(h0, .inr (5, [v0, v1, v2, .ref h1, v3, v4, v5, v6, v7, v8])), (h3, .inl (a0, 1, .inr (.inl (vp_updL f0 0 2)))), (h1, .inr (1, [.ref h2, v9, v10, v11, v12, .int 0, v13, v14, v15, v16, v17, v18, v19])), (h2, .inr (0, [v20, v21, .int 2, v22, v23, v24, v25])), (h4, .inr (6, [.int 0, .ref h5, v27, v28, v29, v30, v31, .int 2, v32, v33, v34, v35, v36, v37, v38, v39, v40, v41, v42, v43, v44, v45, v46, v47, v48, v49, v50])), (h5, .inl (a1, 609, .inr (.inl f1)))]) (tr := [(a0, .long), (a1, .long)]) hx hb hml hown hg okN (cX6_thrown_1 l D h4 (.ref h5) v27 v28 v29 v30 v31 (.int 2) v32 v33 v34 v35 v36 v37 v38 v39 v40 v41 v42 v43 v44 v45 v46 v47 v48 v49 v50) (mwV k1301 k1302 k1303 k92 k1304) ⟨rfl, by decide, by decide, by decide +kernel⟩ ⟨rfl, rfl, (Nat.le_of_ble_eq_true rfl), (Nat.le_of_ble_eq_true rfl)⟩ hP hD hK hS xn [4] [] [0, 1, 2, 3, 4, 5] [] [0, 1] rfl (by decide) rfl rfl (by decide) (by decide) rfl rfl (aNil hA hS) (aNil hA hS) 4 rfl rfl rfl hl.1 rfl (Nat.le_of_ble_eq_true rfl) dL_law_445 ⟨(Nat.le_of_ble_eq_true rfl), (Nat.le_of_ble_eq_true rfl)⟩ (fun u H locs hφ hP hD hK hS hk => ?_)
  have hP : va_P D vwCl [(h0, .inr (5, [v0, v1, v2, .ref h1, v3, v4, v5, v6, v7, v8])), (h3, .inl (a0, 1, .inr (.inl (vp_updL f0 0 2)))), (h1, .inr (1, [.ref h2, v9, v10, v11, v12, .int 0, v13, v14, v15, v16, v17, v18, v19])), (h2, .inr (0, [v20, v21, .int 2, v22, v23, v24, v25])), (h4, .inr (6, [.int 0, .ref h5, v27, v28, v29, v30, v31, .int 2, v32, v33, v34, v35, v36, v37, v38, v39, v40, v41, v42, v43, v44, v45, v46, v47, v48, v49, v50])), (h5, .inl (a1, 609, .inr (.inl f1)))] H := hP
  have hD : va_D A [(h0, .inr (5, [v0, v1, v2, .ref h1, v3, v4, v5, v6, v7, v8])), (h3, .inl (a0, 1, .inr (.inl (vp_updL f0 0 2)))), (h1, .inr (1, [.ref h2, v9, v10, v11, v12, .int 0, v13, v14, v15, v16, v17, v18, v19])), (h2, .inr (0, [v20, v21, .int 2, v22, v23, v24, v25])), (h4, .inr (6, [.int 0, .ref h5, v27, v28, v29, v30, v31, .int 2, v32, v33, v34, v35, v36, v37, v38, v39, v40, v41, v42, v43, v44, v45, v46, v47, v48, v49, v50])), (h5, .inl (a1, 609, .inr (.inl f1)))] := hD
  have hK : va_K D vwCl [(a0, .long), (a1, .long)] s := hK
  refine W.widen (k := 1010) (n := 8898) (Nat.le_of_ble_eq_true rfl) (Nat.le_of_ble_eq_true rfl) ?_
  refine lv_iload hx hb dL_law_448 (lv_at hl 1 rfl) ?_
  refine lv_icmp_eq (tgt := 455) hx hb dL_law_450 (by decide) (fun _ => ?_) (fun c9 => absurd (by decide) c9)
  refine lv_iload hx hb dL_law_455 (lv_at hl 1 rfl) ?_
  refine lv_if_ne (tgt := 472) hx hb dL_law_457 (by decide) (fun c9 => absurd (by decide) c9) (fun _ => ?_)
  refine lv_aload_n hx hb dL_law_460 rfl (lv_at hl 3 rfl) ?_
  refine lv_iconst (v := 0) hx hb dL_law_461 (by decide) ?_
  refine aldL hx hb hK hP 1 0 rfl rfl 0 (by decide) (vin (by decide)) (v := 2) rfl dL_law_462 ?_
  refine lv_iload hx hb dL_law_463 (lv_at hl 0 rfl) ?_
  refine lv_i2l (v := 2) hx hb dL_law_465 (by decide) ?_
  refine W.lcmp hx hb dL_law_466 ?_
  refine ti (0) (by decide) ?_
  refine lv_if_eq (tgt := 472) hx hb dL_law_467 (by decide) (fun _ => ?_) (fun c9 => absurd (by decide) c9)
  refine lv_goto (tgt := 2199) hx hb dL_law_472 (by decide) ?_
  refine W.widen (k := 3000) (n := 30000) (Nat.le_of_ble_eq_true rfl) (Nat.le_of_ble_eq_true rfl) ?_
  exact kk _ _ _ hS (lv_sub hl [2, 6] rfl)
set_option maxHeartbeats 4000000 in
set_option maxRecDepth 100000 in
theorem law_5_3 {p : Program} {e : Env} {s : State} {m : MethodId} {below : List Frame} {meth : Method} {c : Code} (l : Launch) (hlt : l.stackTraces = false) {b : Nat} {xs : Nat → Int32} (hx : p.tables.exec = Jvm.exec) (hb : c.code = cL_law) (hml : c.maxLocals = 9) (hown : s.vm.findClass RL = some m.cls) (hg : ∀ w ∈ GW, w.before #[Value.ref b] s = true) (hXs : va_X b 6 xs s s.heap) (hbl : b < s.heap.size) (D : va_G) {A : Nat → Prop} (hA : ∀ q, s.heap.size ≤ q → A q) (hbA : ¬ A b) (hX : XX A s s.heap) (Q : State → Prop) (h0 : Nat) (h1 : Nat) (h2 : Nat) (h3 : Nat) (h4 : Nat) (v0 : Value) (v1 : Value) (v2 : Value) (v3 : Value) (v4 : Value) (v5 : Value) (v6 : Value) (v7 : Value) (v8 : Value) (v9 : Value) (v10 : Value) (v11 : Value) (v12 : Value) (v13 : Value) (v14 : Value) (v15 : Value) (v16 : Value) (v17 : Value) (v18 : Value) (v19 : Value) (v20 : Value) (f0 : Nat → Int64) (v21 : Value) (v22 : Value) (v23 : Value) (v24 : Value) (v25 : Value) (v26 : Value) (v27 : Value) (v28 : Value) (v29 : Value) (v30 : Value) (v31 : Value) (v32 : Value) (v33 : Value) (v34 : Value) (v35 : Value) (v36 : Value) (v37 : Value) (v38 : Value) (v39 : Value) (v40 : Value) (v41 : Value) (v42 : Value) (v43 : Value) (v44 : Value) (v45 : Value) (v46 : Value) (f1 : Nat → Int64) (a0 : ClassId) (a1 : ClassId) (ef1_4 : f1 4 = 0) (e1 : xs 1 = 2) {H : Heap} {locs : List Loc} {ls : Array Slot} (hP : va_P D vwCl [(h0, .inr (5, [v0, v1, v2, .ref h1, v3, v4, v5, v6, v7, v8])), (h1, .inr (1, [v9, v10, v11, v12, v13, .int 0, v14, v15, v16, v17, v18, v19, v20])), (h2, .inl (a0, 1, .inr (.inl f0))), (h3, .inr (6, [v21, .ref h4, v22, v23, v24, v25, v26, v27, v28, v29, v30, v31, v32, v33, v34, v35, v36, v37, v38, v39, v40, v41, v42, v43, v44, v45, v46])), (h4, .inl (a1, 609, .inr (.inl f1)))] H) (hD : va_D A [(h0, .inr (5, [v0, v1, v2, .ref h1, v3, v4, v5, v6, v7, v8])), (h1, .inr (1, [v9, v10, v11, v12, v13, .int 0, v14, v15, v16, v17, v18, v19, v20])), (h2, .inl (a0, 1, .inr (.inl f0))), (h3, .inr (6, [v21, .ref h4, v22, v23, v24, v25, v26, v27, v28, v29, v30, v31, v32, v33, v34, v35, v36, v37, v38, v39, v40, v41, v42, v43, v44, v45, v46])), (h4, .inl (a1, 609, .inr (.inl f1)))]) (hK : va_K D vwCl [(a0, .long), (a1, .long)] s) (hS : va_S A s.heap H locs) (hl : lv_has ls 9 [(4, .int 0), (3, .ref h2), (2, .ref h3), (1, .ref h0), (0, .ref b)]) (kk : ∀ (H : Heap) (locs : List Loc) (ls : Array Slot), va_S A s.heap H locs → lv_has ls 9 [(4, .int 0), (0, .ref b)] → W p l e room_1 s m #[Value.ref b] below meth c H locs 3000 30000 Q (F0 m 2199 ls [])) : W p l e room_1 s m #[Value.ref b] below meth c H locs 1010 8898 Q (F0 m 419 ls []) := by
  refine lv_aload_n hx hb dL_law_419 rfl (lv_at hl 3 rfl) ?_
  refine lv_aload_n hx hb dL_law_420 rfl (lv_at hl 4 rfl) ?_
  refine lv_iload hx hb dL_law_421 (lv_at hl 0 rfl) ?_
  refine lv_iconst (v := 1) hx hb dL_law_423 (by decide) ?_
  refine lv_iadd hx hb dL_law_424 ?_
  refine ti (1) (by decide) ?_
  refine va_sld hx hb hXs hbl hbA hS (vin (by decide)) dL_law_425 ?_
  refine ti 2 e1 ?_
  refine lv_aload_n hx hb dL_law_426 rfl (lv_at hl 1 rfl) ?_
  refine cHi (n := 3) (As := [.ref h0, .int 2, .ref h2]) (rest := []) (wr := [(h3, .inr (6, [v21, .ref h4, v22, v23, v24, v25, v26, v27, v28, v29, v30, v31, v32, v33, v34, v35, v36, v37, v38, v39, v40, v41, v42, v43, v44, v45, v46])), (h4, .inl (a1, 609, .inr (.inl f1)))]) (tr := [(a1, .long)]) hx hb hml hown hg okN (cL_count_608 l D h0 h2 h1 v0 v1 v2 v3 v4 v5 v6 v7 v8 f0 v9 v10 v11 v12 v13 v14 v15 v16 v17 v18 v19 v20 a0) (mwHS k834 k835 k83 k836) ⟨by decide, by decide, by decide +kernel⟩ ⟨rfl, rfl, (Nat.le_of_ble_eq_true rfl), (Nat.le_of_ble_eq_true rfl)⟩ hP hD hK hS xn [0, 2, 1] [0, 2, 1] [3, 4] [0] [1] rfl (by decide) rfl rfl (by decide) (by decide) rfl rfl (va_free hD hS hA [0, 2, 1] rfl) (va_free hD hS hA [0, 2, 1] rfl) rfl hl.1 rfl (Nat.le_of_ble_eq_true rfl) dL_law_427 ⟨(Nat.le_of_ble_eq_true rfl), (Nat.le_of_ble_eq_true rfl)⟩ (fun u H locs hφ hP hD hK hS hk => ?_)
  have hP : va_P D vwCl [(h3, .inr (6, [v21, .ref h4, v22, v23, v24, v25, v26, v27, v28, v29, v30, v31, v32, v33, v34, v35, v36, v37, v38, v39, v40, v41, v42, v43, v44, v45, v46])), (h4, .inl (a1, 609, .inr (.inl f1))), (h0, .inr (5, [v0, v1, v2, .ref h1, v3, v4, v5, v6, v7, v8])), (h2, .inl (a0, 1, .inr (.inl (vp_updL f0 0 0)))), (h1, .inr (1, [v9, v10, v11, v12, v13, .int 0, v14, v15, v16, v17, v18, v19, v20]))] H := hP
  have hD : va_D A [(h3, .inr (6, [v21, .ref h4, v22, v23, v24, v25, v26, v27, v28, v29, v30, v31, v32, v33, v34, v35, v36, v37, v38, v39, v40, v41, v42, v43, v44, v45, v46])), (h4, .inl (a1, 609, .inr (.inl f1))), (h0, .inr (5, [v0, v1, v2, .ref h1, v3, v4, v5, v6, v7, v8])), (h2, .inl (a0, 1, .inr (.inl (vp_updL f0 0 0)))), (h1, .inr (1, [v9, v10, v11, v12, v13, .int 0, v14, v15, v16, v17, v18, v19, v20]))] := hD
  have hK : va_K D vwCl [(a1, .long), (a0, .long)] s := hK
  refine W.widen (k := 1010) (n := 8898) (Nat.le_of_ble_eq_true rfl) (Nat.le_of_ble_eq_true rfl) ?_
  refine lv_istore (lv' := [(5, .int 0), (4, .int 0), (3, .ref h2), (2, .ref h3), (1, .ref h0), (0, .ref b)]) hx hb dL_law_430 hl (by decide) rfl (fun ls hl => ?_)
  refine lv_aload_n hx hb dL_law_432 rfl (lv_at hl 3 rfl) ?_
  refine lv_aload_n hx hb dL_law_433 rfl (lv_at hl 5 rfl) ?_
  refine lv_iload hx hb dL_law_434 (lv_at hl 1 rfl) ?_
  refine lv_iconst (v := 1) hx hb dL_law_436 (by decide) ?_
  refine lv_iadd hx hb dL_law_437 ?_
  refine ti (1) (by decide) ?_
  refine va_sld hx hb hXs hbl hbA hS (vin (by decide)) dL_law_438 ?_
  refine ti 2 e1 ?_
  refine cVi (n := 1) (As := [.int 2]) (rest := []) (wr := [(h0, .inr (5, [v0, v1, v2, .ref h1, v3, v4, v5, v6, v7, v8])), (h2, .inl (a0, 1, .inr (.inl (vp_updL f0 0 0)))), (h1, .inr (1, [v9, v10, v11, v12, v13, .int 0, v14, v15, v16, v17, v18, v19, v20]))]) (tr := [(a0, .long)]) hx hb hml hown hg okN (cX6_count_36 l D h3 h4 v21 v22 v23 v24 v25 v26 v27 v28 v29 v30 v31 v32 v33 v34 v35 v36 v37 v38 v39 v40 v41 v42 v43 v44 v45 v46 f1 a1 ef1_4) (mwV k1407 k1408 k1409 k92 k1410) ⟨rfl, by decide, by decide, by decide +kernel⟩ ⟨rfl, rfl, (Nat.le_of_ble_eq_true rfl), (Nat.le_of_ble_eq_true rfl)⟩ hP hD hK hS xn [0, 1] [0, 1] [2, 3, 4] [0] [1] rfl (by decide) rfl rfl (by decide) (by decide) rfl rfl (va_free hD hS hA [0, 1] rfl) (va_free hD hS hA [0, 1] rfl) 0 rfl rfl rfl hl.1 rfl (Nat.le_of_ble_eq_true rfl) dL_law_439 ⟨(Nat.le_of_ble_eq_true rfl), (Nat.le_of_ble_eq_true rfl)⟩ (fun u H locs hφ hP hD hK hS hk => ?_)
  have hP : va_P D vwCl [(h0, .inr (5, [v0, v1, v2, .ref h1, v3, v4, v5, v6, v7, v8])), (h2, .inl (a0, 1, .inr (.inl (vp_updL f0 0 0)))), (h1, .inr (1, [v9, v10, v11, v12, v13, .int 0, v14, v15, v16, v17, v18, v19, v20])), (h3, .inr (6, [.int 0, .ref h4, v22, v23, v24, v25, v26, v27, v28, v29, v30, v31, v32, v33, v34, v35, v36, v37, v38, v39, v40, v41, v42, v43, v44, v45, v46])), (h4, .inl (a1, 609, .inr (.inl f1)))] H := hP
  have hD : va_D A [(h0, .inr (5, [v0, v1, v2, .ref h1, v3, v4, v5, v6, v7, v8])), (h2, .inl (a0, 1, .inr (.inl (vp_updL f0 0 0)))), (h1, .inr (1, [v9, v10, v11, v12, v13, .int 0, v14, v15, v16, v17, v18, v19, v20])), (h3, .inr (6, [.int 0, .ref h4, v22, v23, v24, v25, v26, v27, v28, v29, v30, v31, v32, v33, v34, v35, v36, v37, v38, v39, v40, v41, v42, v43, v44, v45, v46])), (h4, .inl (a1, 609, .inr (.inl f1)))] := hD
  have hK : va_K D vwCl [(a0, .long), (a1, .long)] s := hK
  refine W.widen (k := 1010) (n := 8898) (Nat.le_of_ble_eq_true rfl) (Nat.le_of_ble_eq_true rfl) ?_
  refine lv_istore (lv' := [(6, .int 0), (5, .int 0), (4, .int 0), (3, .ref h2), (2, .ref h3), (1, .ref h0), (0, .ref b)]) hx hb dL_law_442 hl (by decide) rfl (fun ls hl => ?_)
  refine lv_aload_n hx hb dL_law_444 rfl (lv_at hl 4 rfl) ?_
  refine cVi (n := 0) (As := []) (rest := []) (wr := [(h0, .inr (5, [v0, v1, v2, .ref h1, v3, v4, v5, v6, v7, v8])), (h2, .inl (a0, 1, .inr (.inl (vp_updL f0 0 0)))), (h1, .inr (1, [v9, v10, v11, v12, v13, .int 0, v14, v15, v16, v17, v18, v19, v20])), (h3, .inr (6, [.int 0, .ref h4, v22, v23, v24, v25, v26, v27, v28, v29, v30, v31, v32, v33, v34, v35, v36, v37, v38, v39, v40, v41, v42, v43, v44, v45, v46])), (h4, .inl (a1, 609, .inr (.inl f1)))]) (tr := [(a0, .long), (a1, .long)]) hx hb hml hown hg okN (cX6_thrown_1 l D h3 (.ref h4) v22 v23 v24 v25 v26 v27 v28 v29 v30 v31 v32 v33 v34 v35 v36 v37 v38 v39 v40 v41 v42 v43 v44 v45 v46) (mwV k1301 k1302 k1303 k92 k1304) ⟨rfl, by decide, by decide, by decide +kernel⟩ ⟨rfl, rfl, (Nat.le_of_ble_eq_true rfl), (Nat.le_of_ble_eq_true rfl)⟩ hP hD hK hS xn [3] [] [0, 1, 2, 3, 4] [] [0, 1] rfl (by decide) rfl rfl (by decide) (by decide) rfl rfl (aNil hA hS) (aNil hA hS) 3 rfl rfl rfl hl.1 rfl (Nat.le_of_ble_eq_true rfl) dL_law_445 ⟨(Nat.le_of_ble_eq_true rfl), (Nat.le_of_ble_eq_true rfl)⟩ (fun u H locs hφ hP hD hK hS hk => ?_)
  have hP : va_P D vwCl [(h0, .inr (5, [v0, v1, v2, .ref h1, v3, v4, v5, v6, v7, v8])), (h2, .inl (a0, 1, .inr (.inl (vp_updL f0 0 0)))), (h1, .inr (1, [v9, v10, v11, v12, v13, .int 0, v14, v15, v16, v17, v18, v19, v20])), (h3, .inr (6, [.int 0, .ref h4, v22, v23, v24, v25, v26, v27, v28, v29, v30, v31, v32, v33, v34, v35, v36, v37, v38, v39, v40, v41, v42, v43, v44, v45, v46])), (h4, .inl (a1, 609, .inr (.inl f1)))] H := hP
  have hD : va_D A [(h0, .inr (5, [v0, v1, v2, .ref h1, v3, v4, v5, v6, v7, v8])), (h2, .inl (a0, 1, .inr (.inl (vp_updL f0 0 0)))), (h1, .inr (1, [v9, v10, v11, v12, v13, .int 0, v14, v15, v16, v17, v18, v19, v20])), (h3, .inr (6, [.int 0, .ref h4, v22, v23, v24, v25, v26, v27, v28, v29, v30, v31, v32, v33, v34, v35, v36, v37, v38, v39, v40, v41, v42, v43, v44, v45, v46])), (h4, .inl (a1, 609, .inr (.inl f1)))] := hD
  have hK : va_K D vwCl [(a0, .long), (a1, .long)] s := hK
  refine W.widen (k := 1010) (n := 8898) (Nat.le_of_ble_eq_true rfl) (Nat.le_of_ble_eq_true rfl) ?_
  refine lv_iload hx hb dL_law_448 (lv_at hl 1 rfl) ?_
  refine lv_icmp_eq (tgt := 455) hx hb dL_law_450 (by decide) (fun _ => ?_) (fun c9 => absurd (by decide) c9)
  refine lv_iload hx hb dL_law_455 (lv_at hl 1 rfl) ?_
  refine lv_if_ne (tgt := 472) hx hb dL_law_457 (by decide) (fun c9 => absurd (by decide) c9) (fun _ => ?_)
  refine lv_aload_n hx hb dL_law_460 rfl (lv_at hl 3 rfl) ?_
  refine lv_iconst (v := 0) hx hb dL_law_461 (by decide) ?_
  refine aldL hx hb hK hP 1 0 rfl rfl 0 (by decide) (vin (by decide)) (v := 0) rfl dL_law_462 ?_
  refine lv_iload hx hb dL_law_463 (lv_at hl 0 rfl) ?_
  refine lv_i2l (v := 0) hx hb dL_law_465 (by decide) ?_
  refine W.lcmp hx hb dL_law_466 ?_
  refine ti (0) (by decide) ?_
  refine lv_if_eq (tgt := 472) hx hb dL_law_467 (by decide) (fun _ => ?_) (fun c9 => absurd (by decide) c9)
  refine lv_goto (tgt := 2199) hx hb dL_law_472 (by decide) ?_
  refine W.widen (k := 3000) (n := 30000) (Nat.le_of_ble_eq_true rfl) (Nat.le_of_ble_eq_true rfl) ?_
  exact kk _ _ _ hS (lv_sub hl [2, 6] rfl)
set_option maxHeartbeats 4000000 in
set_option maxRecDepth 100000 in
theorem law_5_4 {p : Program} {e : Env} {s : State} {m : MethodId} {below : List Frame} {meth : Method} {c : Code} (l : Launch) (hlt : l.stackTraces = false) {b : Nat} {xs : Nat → Int32} (hx : p.tables.exec = Jvm.exec) (hb : c.code = cL_law) (hml : c.maxLocals = 9) (hown : s.vm.findClass RL = some m.cls) (hg : ∀ w ∈ GW, w.before #[Value.ref b] s = true) (hXs : va_X b 6 xs s s.heap) (hbl : b < s.heap.size) (D : va_G) {A : Nat → Prop} (hA : ∀ q, s.heap.size ≤ q → A q) (hbA : ¬ A b) (hX : XX A s s.heap) (Q : State → Prop) (h0 : Nat) (h1 : Nat) (h2 : Nat) (h3 : Nat) (h4 : Nat) (v0 : Value) (v1 : Value) (v2 : Value) (v3 : Value) (v4 : Value) (v5 : Value) (v6 : Value) (v7 : Value) (v8 : Value) (v9 : Value) (v10 : Value) (v11 : Value) (v12 : Value) (v13 : Value) (v14 : Value) (v15 : Value) (v16 : Value) (v17 : Value) (v18 : Value) (v19 : Value) (v20 : Value) (f0 : Nat → Int64) (v21 : Value) (v22 : Value) (v23 : Value) (v24 : Value) (v25 : Value) (v26 : Value) (v27 : Value) (v28 : Value) (v29 : Value) (v30 : Value) (v31 : Value) (v32 : Value) (v33 : Value) (v34 : Value) (v35 : Value) (v36 : Value) (v37 : Value) (v38 : Value) (v39 : Value) (v40 : Value) (v41 : Value) (v42 : Value) (v43 : Value) (v44 : Value) (v45 : Value) (v46 : Value) (f1 : Nat → Int64) (a0 : ClassId) (a1 : ClassId) (ef1_4 : f1 4 = 0) (e1 : xs 1 = 3) {H : Heap} {locs : List Loc} {ls : Array Slot} (hP : va_P D vwCl [(h0, .inr (5, [v0, v1, v2, .ref h1, v3, v4, v5, v6, v7, v8])), (h1, .inr (1, [v9, v10, v11, v12, v13, .int 0, v14, v15, v16, v17, v18, v19, v20])), (h2, .inl (a0, 1, .inr (.inl f0))), (h3, .inr (6, [v21, .ref h4, v22, v23, v24, v25, v26, v27, v28, v29, v30, v31, v32, v33, v34, v35, v36, v37, v38, v39, v40, v41, v42, v43, v44, v45, v46])), (h4, .inl (a1, 609, .inr (.inl f1)))] H) (hD : va_D A [(h0, .inr (5, [v0, v1, v2, .ref h1, v3, v4, v5, v6, v7, v8])), (h1, .inr (1, [v9, v10, v11, v12, v13, .int 0, v14, v15, v16, v17, v18, v19, v20])), (h2, .inl (a0, 1, .inr (.inl f0))), (h3, .inr (6, [v21, .ref h4, v22, v23, v24, v25, v26, v27, v28, v29, v30, v31, v32, v33, v34, v35, v36, v37, v38, v39, v40, v41, v42, v43, v44, v45, v46])), (h4, .inl (a1, 609, .inr (.inl f1)))]) (hK : va_K D vwCl [(a0, .long), (a1, .long)] s) (hS : va_S A s.heap H locs) (hl : lv_has ls 9 [(4, .int 0), (3, .ref h2), (2, .ref h3), (1, .ref h0), (0, .ref b)]) (kk : ∀ (H : Heap) (locs : List Loc) (ls : Array Slot), va_S A s.heap H locs → lv_has ls 9 [(4, .int 0), (0, .ref b)] → W p l e room_1 s m #[Value.ref b] below meth c H locs 3000 30000 Q (F0 m 2199 ls [])) : W p l e room_1 s m #[Value.ref b] below meth c H locs 1010 8898 Q (F0 m 419 ls []) := by
  refine lv_aload_n hx hb dL_law_419 rfl (lv_at hl 3 rfl) ?_
  refine lv_aload_n hx hb dL_law_420 rfl (lv_at hl 4 rfl) ?_
  refine lv_iload hx hb dL_law_421 (lv_at hl 0 rfl) ?_
  refine lv_iconst (v := 1) hx hb dL_law_423 (by decide) ?_
  refine lv_iadd hx hb dL_law_424 ?_
  refine ti (1) (by decide) ?_
  refine va_sld hx hb hXs hbl hbA hS (vin (by decide)) dL_law_425 ?_
  refine ti 3 e1 ?_
  refine lv_aload_n hx hb dL_law_426 rfl (lv_at hl 1 rfl) ?_
  refine cHi (n := 3) (As := [.ref h0, .int 3, .ref h2]) (rest := []) (wr := [(h3, .inr (6, [v21, .ref h4, v22, v23, v24, v25, v26, v27, v28, v29, v30, v31, v32, v33, v34, v35, v36, v37, v38, v39, v40, v41, v42, v43, v44, v45, v46])), (h4, .inl (a1, 609, .inr (.inl f1)))]) (tr := [(a1, .long)]) hx hb hml hown hg okN (cL_count_609 l D h0 h2 h1 v0 v1 v2 v3 v4 v5 v6 v7 v8 f0 v9 v10 v11 v12 v13 v14 v15 v16 v17 v18 v19 v20 a0) (mwHS k834 k835 k83 k836) ⟨by decide, by decide, by decide +kernel⟩ ⟨rfl, rfl, (Nat.le_of_ble_eq_true rfl), (Nat.le_of_ble_eq_true rfl)⟩ hP hD hK hS xn [0, 2, 1] [0, 2, 1] [3, 4] [0] [1] rfl (by decide) rfl rfl (by decide) (by decide) rfl rfl (va_free hD hS hA [0, 2, 1] rfl) (va_free hD hS hA [0, 2, 1] rfl) rfl hl.1 rfl (Nat.le_of_ble_eq_true rfl) dL_law_427 ⟨(Nat.le_of_ble_eq_true rfl), (Nat.le_of_ble_eq_true rfl)⟩ (fun u H locs hφ hP hD hK hS hk => ?_)
  have hP : va_P D vwCl [(h3, .inr (6, [v21, .ref h4, v22, v23, v24, v25, v26, v27, v28, v29, v30, v31, v32, v33, v34, v35, v36, v37, v38, v39, v40, v41, v42, v43, v44, v45, v46])), (h4, .inl (a1, 609, .inr (.inl f1))), (h0, .inr (5, [v0, v1, v2, .ref h1, v3, v4, v5, v6, v7, v8])), (h2, .inl (a0, 1, .inr (.inl (vp_updL f0 0 0)))), (h1, .inr (1, [v9, v10, v11, v12, v13, .int 0, v14, v15, v16, v17, v18, v19, v20]))] H := hP
  have hD : va_D A [(h3, .inr (6, [v21, .ref h4, v22, v23, v24, v25, v26, v27, v28, v29, v30, v31, v32, v33, v34, v35, v36, v37, v38, v39, v40, v41, v42, v43, v44, v45, v46])), (h4, .inl (a1, 609, .inr (.inl f1))), (h0, .inr (5, [v0, v1, v2, .ref h1, v3, v4, v5, v6, v7, v8])), (h2, .inl (a0, 1, .inr (.inl (vp_updL f0 0 0)))), (h1, .inr (1, [v9, v10, v11, v12, v13, .int 0, v14, v15, v16, v17, v18, v19, v20]))] := hD
  have hK : va_K D vwCl [(a1, .long), (a0, .long)] s := hK
  refine W.widen (k := 1010) (n := 8898) (Nat.le_of_ble_eq_true rfl) (Nat.le_of_ble_eq_true rfl) ?_
  refine lv_istore (lv' := [(5, .int 0), (4, .int 0), (3, .ref h2), (2, .ref h3), (1, .ref h0), (0, .ref b)]) hx hb dL_law_430 hl (by decide) rfl (fun ls hl => ?_)
  refine lv_aload_n hx hb dL_law_432 rfl (lv_at hl 3 rfl) ?_
  refine lv_aload_n hx hb dL_law_433 rfl (lv_at hl 5 rfl) ?_
  refine lv_iload hx hb dL_law_434 (lv_at hl 1 rfl) ?_
  refine lv_iconst (v := 1) hx hb dL_law_436 (by decide) ?_
  refine lv_iadd hx hb dL_law_437 ?_
  refine ti (1) (by decide) ?_
  refine va_sld hx hb hXs hbl hbA hS (vin (by decide)) dL_law_438 ?_
  refine ti 3 e1 ?_
  refine cVi (n := 1) (As := [.int 3]) (rest := []) (wr := [(h0, .inr (5, [v0, v1, v2, .ref h1, v3, v4, v5, v6, v7, v8])), (h2, .inl (a0, 1, .inr (.inl (vp_updL f0 0 0)))), (h1, .inr (1, [v9, v10, v11, v12, v13, .int 0, v14, v15, v16, v17, v18, v19, v20]))]) (tr := [(a0, .long)]) hx hb hml hown hg okN (cX6_count_38 l D h3 h4 v21 v22 v23 v24 v25 v26 v27 v28 v29 v30 v31 v32 v33 v34 v35 v36 v37 v38 v39 v40 v41 v42 v43 v44 v45 v46 f1 a1 ef1_4) (mwV k1407 k1408 k1409 k92 k1410) ⟨rfl, by decide, by decide, by decide +kernel⟩ ⟨rfl, rfl, (Nat.le_of_ble_eq_true rfl), (Nat.le_of_ble_eq_true rfl)⟩ hP hD hK hS xn [0, 1] [0, 1] [2, 3, 4] [0] [1] rfl (by decide) rfl rfl (by decide) (by decide) rfl rfl (va_free hD hS hA [0, 1] rfl) (va_free hD hS hA [0, 1] rfl) 0 rfl rfl rfl hl.1 rfl (Nat.le_of_ble_eq_true rfl) dL_law_439 ⟨(Nat.le_of_ble_eq_true rfl), (Nat.le_of_ble_eq_true rfl)⟩ (fun u H locs hφ hP hD hK hS hk => ?_)
  have hP : va_P D vwCl [(h0, .inr (5, [v0, v1, v2, .ref h1, v3, v4, v5, v6, v7, v8])), (h2, .inl (a0, 1, .inr (.inl (vp_updL f0 0 0)))), (h1, .inr (1, [v9, v10, v11, v12, v13, .int 0, v14, v15, v16, v17, v18, v19, v20])), (h3, .inr (6, [.int 0, .ref h4, v22, v23, v24, v25, v26, v27, v28, v29, v30, v31, v32, v33, v34, v35, v36, v37, v38, v39, v40, v41, v42, v43, v44, v45, v46])), (h4, .inl (a1, 609, .inr (.inl f1)))] H := hP
  have hD : va_D A [(h0, .inr (5, [v0, v1, v2, .ref h1, v3, v4, v5, v6, v7, v8])), (h2, .inl (a0, 1, .inr (.inl (vp_updL f0 0 0)))), (h1, .inr (1, [v9, v10, v11, v12, v13, .int 0, v14, v15, v16, v17, v18, v19, v20])), (h3, .inr (6, [.int 0, .ref h4, v22, v23, v24, v25, v26, v27, v28, v29, v30, v31, v32, v33, v34, v35, v36, v37, v38, v39, v40, v41, v42, v43, v44, v45, v46])), (h4, .inl (a1, 609, .inr (.inl f1)))] := hD
  have hK : va_K D vwCl [(a0, .long), (a1, .long)] s := hK
  refine W.widen (k := 1010) (n := 8898) (Nat.le_of_ble_eq_true rfl) (Nat.le_of_ble_eq_true rfl) ?_
  refine lv_istore (lv' := [(6, .int 0), (5, .int 0), (4, .int 0), (3, .ref h2), (2, .ref h3), (1, .ref h0), (0, .ref b)]) hx hb dL_law_442 hl (by decide) rfl (fun ls hl => ?_)
  refine lv_aload_n hx hb dL_law_444 rfl (lv_at hl 4 rfl) ?_
  refine cVi (n := 0) (As := []) (rest := []) (wr := [(h0, .inr (5, [v0, v1, v2, .ref h1, v3, v4, v5, v6, v7, v8])), (h2, .inl (a0, 1, .inr (.inl (vp_updL f0 0 0)))), (h1, .inr (1, [v9, v10, v11, v12, v13, .int 0, v14, v15, v16, v17, v18, v19, v20])), (h3, .inr (6, [.int 0, .ref h4, v22, v23, v24, v25, v26, v27, v28, v29, v30, v31, v32, v33, v34, v35, v36, v37, v38, v39, v40, v41, v42, v43, v44, v45, v46])), (h4, .inl (a1, 609, .inr (.inl f1)))]) (tr := [(a0, .long), (a1, .long)]) hx hb hml hown hg okN (cX6_thrown_1 l D h3 (.ref h4) v22 v23 v24 v25 v26 v27 v28 v29 v30 v31 v32 v33 v34 v35 v36 v37 v38 v39 v40 v41 v42 v43 v44 v45 v46) (mwV k1301 k1302 k1303 k92 k1304) ⟨rfl, by decide, by decide, by decide +kernel⟩ ⟨rfl, rfl, (Nat.le_of_ble_eq_true rfl), (Nat.le_of_ble_eq_true rfl)⟩ hP hD hK hS xn [3] [] [0, 1, 2, 3, 4] [] [0, 1] rfl (by decide) rfl rfl (by decide) (by decide) rfl rfl (aNil hA hS) (aNil hA hS) 3 rfl rfl rfl hl.1 rfl (Nat.le_of_ble_eq_true rfl) dL_law_445 ⟨(Nat.le_of_ble_eq_true rfl), (Nat.le_of_ble_eq_true rfl)⟩ (fun u H locs hφ hP hD hK hS hk => ?_)
  have hP : va_P D vwCl [(h0, .inr (5, [v0, v1, v2, .ref h1, v3, v4, v5, v6, v7, v8])), (h2, .inl (a0, 1, .inr (.inl (vp_updL f0 0 0)))), (h1, .inr (1, [v9, v10, v11, v12, v13, .int 0, v14, v15, v16, v17, v18, v19, v20])), (h3, .inr (6, [.int 0, .ref h4, v22, v23, v24, v25, v26, v27, v28, v29, v30, v31, v32, v33, v34, v35, v36, v37, v38, v39, v40, v41, v42, v43, v44, v45, v46])), (h4, .inl (a1, 609, .inr (.inl f1)))] H := hP
  have hD : va_D A [(h0, .inr (5, [v0, v1, v2, .ref h1, v3, v4, v5, v6, v7, v8])), (h2, .inl (a0, 1, .inr (.inl (vp_updL f0 0 0)))), (h1, .inr (1, [v9, v10, v11, v12, v13, .int 0, v14, v15, v16, v17, v18, v19, v20])), (h3, .inr (6, [.int 0, .ref h4, v22, v23, v24, v25, v26, v27, v28, v29, v30, v31, v32, v33, v34, v35, v36, v37, v38, v39, v40, v41, v42, v43, v44, v45, v46])), (h4, .inl (a1, 609, .inr (.inl f1)))] := hD
  have hK : va_K D vwCl [(a0, .long), (a1, .long)] s := hK
  refine W.widen (k := 1010) (n := 8898) (Nat.le_of_ble_eq_true rfl) (Nat.le_of_ble_eq_true rfl) ?_
  refine lv_iload hx hb dL_law_448 (lv_at hl 1 rfl) ?_
  refine lv_icmp_eq (tgt := 455) hx hb dL_law_450 (by decide) (fun _ => ?_) (fun c9 => absurd (by decide) c9)
  refine lv_iload hx hb dL_law_455 (lv_at hl 1 rfl) ?_
  refine lv_if_ne (tgt := 472) hx hb dL_law_457 (by decide) (fun c9 => absurd (by decide) c9) (fun _ => ?_)
  refine lv_aload_n hx hb dL_law_460 rfl (lv_at hl 3 rfl) ?_
  refine lv_iconst (v := 0) hx hb dL_law_461 (by decide) ?_
  refine aldL hx hb hK hP 1 0 rfl rfl 0 (by decide) (vin (by decide)) (v := 0) rfl dL_law_462 ?_
  refine lv_iload hx hb dL_law_463 (lv_at hl 0 rfl) ?_
  refine lv_i2l (v := 0) hx hb dL_law_465 (by decide) ?_
  refine W.lcmp hx hb dL_law_466 ?_
  refine ti (0) (by decide) ?_
  refine lv_if_eq (tgt := 472) hx hb dL_law_467 (by decide) (fun _ => ?_) (fun c9 => absurd (by decide) c9)
  refine lv_goto (tgt := 2199) hx hb dL_law_472 (by decide) ?_
  refine W.widen (k := 3000) (n := 30000) (Nat.le_of_ble_eq_true rfl) (Nat.le_of_ble_eq_true rfl) ?_
  exact kk _ _ _ hS (lv_sub hl [2, 6] rfl)
set_option maxHeartbeats 4000000 in
set_option maxRecDepth 100000 in
theorem law_5_5 {p : Program} {e : Env} {s : State} {m : MethodId} {below : List Frame} {meth : Method} {c : Code} (l : Launch) (hlt : l.stackTraces = false) {b : Nat} {xs : Nat → Int32} (hx : p.tables.exec = Jvm.exec) (hb : c.code = cL_law) (hml : c.maxLocals = 9) (hown : s.vm.findClass RL = some m.cls) (hg : ∀ w ∈ GW, w.before #[Value.ref b] s = true) (hXs : va_X b 6 xs s s.heap) (hbl : b < s.heap.size) (D : va_G) {A : Nat → Prop} (hA : ∀ q, s.heap.size ≤ q → A q) (hbA : ¬ A b) (hX : XX A s s.heap) (Q : State → Prop) (h0 : Nat) (h1 : Nat) (h2 : Nat) (h3 : Nat) (h4 : Nat) (v0 : Value) (v1 : Value) (v2 : Value) (v3 : Value) (v4 : Value) (v5 : Value) (v6 : Value) (v7 : Value) (v8 : Value) (v9 : Value) (v10 : Value) (v11 : Value) (v12 : Value) (v13 : Value) (v14 : Value) (v15 : Value) (v16 : Value) (v17 : Value) (v18 : Value) (v19 : Value) (v20 : Value) (f0 : Nat → Int64) (v21 : Value) (v22 : Value) (v23 : Value) (v24 : Value) (v25 : Value) (v26 : Value) (v27 : Value) (v28 : Value) (v29 : Value) (v30 : Value) (v31 : Value) (v32 : Value) (v33 : Value) (v34 : Value) (v35 : Value) (v36 : Value) (v37 : Value) (v38 : Value) (v39 : Value) (v40 : Value) (v41 : Value) (v42 : Value) (v43 : Value) (v44 : Value) (v45 : Value) (v46 : Value) (f1 : Nat → Int64) (a0 : ClassId) (a1 : ClassId) (ef1_0 : f1 0 = 0) (e1 : xs 1 = 4) {H : Heap} {locs : List Loc} {ls : Array Slot} (hP : va_P D vwCl [(h0, .inr (5, [v0, v1, v2, .ref h1, v3, v4, v5, v6, v7, v8])), (h1, .inr (1, [v9, v10, v11, v12, v13, v14, v15, .int 0, v16, v17, v18, v19, v20])), (h2, .inl (a0, 1, .inr (.inl f0))), (h3, .inr (6, [v21, .ref h4, v22, v23, v24, v25, v26, v27, v28, v29, v30, v31, v32, v33, v34, v35, v36, v37, v38, v39, v40, v41, v42, v43, v44, v45, v46])), (h4, .inl (a1, 609, .inr (.inl f1)))] H) (hD : va_D A [(h0, .inr (5, [v0, v1, v2, .ref h1, v3, v4, v5, v6, v7, v8])), (h1, .inr (1, [v9, v10, v11, v12, v13, v14, v15, .int 0, v16, v17, v18, v19, v20])), (h2, .inl (a0, 1, .inr (.inl f0))), (h3, .inr (6, [v21, .ref h4, v22, v23, v24, v25, v26, v27, v28, v29, v30, v31, v32, v33, v34, v35, v36, v37, v38, v39, v40, v41, v42, v43, v44, v45, v46])), (h4, .inl (a1, 609, .inr (.inl f1)))]) (hK : va_K D vwCl [(a0, .long), (a1, .long)] s) (hS : va_S A s.heap H locs) (hl : lv_has ls 9 [(4, .int 0), (3, .ref h2), (2, .ref h3), (1, .ref h0), (0, .ref b)]) (kk : ∀ (H : Heap) (locs : List Loc) (ls : Array Slot), va_S A s.heap H locs → lv_has ls 9 [(4, .int 0), (0, .ref b)] → W p l e room_1 s m #[Value.ref b] below meth c H locs 3000 30000 Q (F0 m 2199 ls [])) : W p l e room_1 s m #[Value.ref b] below meth c H locs 1010 8898 Q (F0 m 419 ls []) := by
  refine lv_aload_n hx hb dL_law_419 rfl (lv_at hl 3 rfl) ?_
  refine lv_aload_n hx hb dL_law_420 rfl (lv_at hl 4 rfl) ?_
  refine lv_iload hx hb dL_law_421 (lv_at hl 0 rfl) ?_
  refine lv_iconst (v := 1) hx hb dL_law_423 (by decide) ?_
  refine lv_iadd hx hb dL_law_424 ?_
  refine ti (1) (by decide) ?_
  refine va_sld hx hb hXs hbl hbA hS (vin (by decide)) dL_law_425 ?_
  refine ti 4 e1 ?_
  refine lv_aload_n hx hb dL_law_426 rfl (lv_at hl 1 rfl) ?_
  refine cHi (n := 3) (As := [.ref h0, .int 4, .ref h2]) (rest := []) (wr := [(h3, .inr (6, [v21, .ref h4, v22, v23, v24, v25, v26, v27, v28, v29, v30, v31, v32, v33, v34, v35, v36, v37, v38, v39, v40, v41, v42, v43, v44, v45, v46])), (h4, .inl (a1, 609, .inr (.inl f1)))]) (tr := [(a1, .long)]) hx hb hml hown hg okN (cL_count_610 l D h0 h2 h1 v0 v1 v2 v3 v4 v5 v6 v7 v8 f0 v9 v10 v11 v12 v13 v14 v15 v16 v17 v18 v19 v20 a0) (mwHS k834 k835 k83 k836) ⟨by decide, by decide, by decide +kernel⟩ ⟨rfl, rfl, (Nat.le_of_ble_eq_true rfl), (Nat.le_of_ble_eq_true rfl)⟩ hP hD hK hS xn [0, 2, 1] [0, 2, 1] [3, 4] [0] [1] rfl (by decide) rfl rfl (by decide) (by decide) rfl rfl (va_free hD hS hA [0, 2, 1] rfl) (va_free hD hS hA [0, 2, 1] rfl) rfl hl.1 rfl (Nat.le_of_ble_eq_true rfl) dL_law_427 ⟨(Nat.le_of_ble_eq_true rfl), (Nat.le_of_ble_eq_true rfl)⟩ (fun u H locs hφ hP hD hK hS hk => ?_)
  have hP : va_P D vwCl [(h3, .inr (6, [v21, .ref h4, v22, v23, v24, v25, v26, v27, v28, v29, v30, v31, v32, v33, v34, v35, v36, v37, v38, v39, v40, v41, v42, v43, v44, v45, v46])), (h4, .inl (a1, 609, .inr (.inl f1))), (h0, .inr (5, [v0, v1, v2, .ref h1, v3, v4, v5, v6, v7, v8])), (h2, .inl (a0, 1, .inr (.inl (vp_updL f0 0 0)))), (h1, .inr (1, [v9, v10, v11, v12, v13, v14, v15, .int 0, v16, v17, v18, v19, v20]))] H := hP
  have hD : va_D A [(h3, .inr (6, [v21, .ref h4, v22, v23, v24, v25, v26, v27, v28, v29, v30, v31, v32, v33, v34, v35, v36, v37, v38, v39, v40, v41, v42, v43, v44, v45, v46])), (h4, .inl (a1, 609, .inr (.inl f1))), (h0, .inr (5, [v0, v1, v2, .ref h1, v3, v4, v5, v6, v7, v8])), (h2, .inl (a0, 1, .inr (.inl (vp_updL f0 0 0)))), (h1, .inr (1, [v9, v10, v11, v12, v13, v14, v15, .int 0, v16, v17, v18, v19, v20]))] := hD
  have hK : va_K D vwCl [(a1, .long), (a0, .long)] s := hK
  refine W.widen (k := 1010) (n := 8898) (Nat.le_of_ble_eq_true rfl) (Nat.le_of_ble_eq_true rfl) ?_
  refine lv_istore (lv' := [(5, .int 0), (4, .int 0), (3, .ref h2), (2, .ref h3), (1, .ref h0), (0, .ref b)]) hx hb dL_law_430 hl (by decide) rfl (fun ls hl => ?_)
  refine lv_aload_n hx hb dL_law_432 rfl (lv_at hl 3 rfl) ?_
  refine lv_aload_n hx hb dL_law_433 rfl (lv_at hl 5 rfl) ?_
  refine lv_iload hx hb dL_law_434 (lv_at hl 1 rfl) ?_
  refine lv_iconst (v := 1) hx hb dL_law_436 (by decide) ?_
  refine lv_iadd hx hb dL_law_437 ?_
  refine ti (1) (by decide) ?_
  refine va_sld hx hb hXs hbl hbA hS (vin (by decide)) dL_law_438 ?_
  refine ti 4 e1 ?_
  refine cVi (n := 1) (As := [.int 4]) (rest := []) (wr := [(h0, .inr (5, [v0, v1, v2, .ref h1, v3, v4, v5, v6, v7, v8])), (h2, .inl (a0, 1, .inr (.inl (vp_updL f0 0 0)))), (h1, .inr (1, [v9, v10, v11, v12, v13, v14, v15, .int 0, v16, v17, v18, v19, v20]))]) (tr := [(a0, .long)]) hx hb hml hown hg okN (cX6_count_41 l D h3 h4 v21 v22 v23 v24 v25 v26 v27 v28 v29 v30 v31 v32 v33 v34 v35 v36 v37 v38 v39 v40 v41 v42 v43 v44 v45 v46 f1 a1 ef1_0) (mwV k1407 k1408 k1409 k92 k1410) ⟨rfl, by decide, by decide, by decide +kernel⟩ ⟨rfl, rfl, (Nat.le_of_ble_eq_true rfl), (Nat.le_of_ble_eq_true rfl)⟩ hP hD hK hS xn [0, 1] [0, 1] [2, 3, 4] [0] [1] rfl (by decide) rfl rfl (by decide) (by decide) rfl rfl (va_free hD hS hA [0, 1] rfl) (va_free hD hS hA [0, 1] rfl) 0 rfl rfl rfl hl.1 rfl (Nat.le_of_ble_eq_true rfl) dL_law_439 ⟨(Nat.le_of_ble_eq_true rfl), (Nat.le_of_ble_eq_true rfl)⟩ (fun u H locs hφ hP hD hK hS hk => ?_)
  have hP : va_P D vwCl [(h0, .inr (5, [v0, v1, v2, .ref h1, v3, v4, v5, v6, v7, v8])), (h2, .inl (a0, 1, .inr (.inl (vp_updL f0 0 0)))), (h1, .inr (1, [v9, v10, v11, v12, v13, v14, v15, .int 0, v16, v17, v18, v19, v20])), (h3, .inr (6, [.int 0, .ref h4, v22, v23, v24, v25, v26, v27, v28, v29, v30, v31, v32, v33, v34, v35, v36, v37, v38, v39, v40, v41, v42, v43, v44, v45, v46])), (h4, .inl (a1, 609, .inr (.inl f1)))] H := hP
  have hD : va_D A [(h0, .inr (5, [v0, v1, v2, .ref h1, v3, v4, v5, v6, v7, v8])), (h2, .inl (a0, 1, .inr (.inl (vp_updL f0 0 0)))), (h1, .inr (1, [v9, v10, v11, v12, v13, v14, v15, .int 0, v16, v17, v18, v19, v20])), (h3, .inr (6, [.int 0, .ref h4, v22, v23, v24, v25, v26, v27, v28, v29, v30, v31, v32, v33, v34, v35, v36, v37, v38, v39, v40, v41, v42, v43, v44, v45, v46])), (h4, .inl (a1, 609, .inr (.inl f1)))] := hD
  have hK : va_K D vwCl [(a0, .long), (a1, .long)] s := hK
  refine W.widen (k := 1010) (n := 8898) (Nat.le_of_ble_eq_true rfl) (Nat.le_of_ble_eq_true rfl) ?_
  refine lv_istore (lv' := [(6, .int 0), (5, .int 0), (4, .int 0), (3, .ref h2), (2, .ref h3), (1, .ref h0), (0, .ref b)]) hx hb dL_law_442 hl (by decide) rfl (fun ls hl => ?_)
  refine lv_aload_n hx hb dL_law_444 rfl (lv_at hl 4 rfl) ?_
  refine cVi (n := 0) (As := []) (rest := []) (wr := [(h0, .inr (5, [v0, v1, v2, .ref h1, v3, v4, v5, v6, v7, v8])), (h2, .inl (a0, 1, .inr (.inl (vp_updL f0 0 0)))), (h1, .inr (1, [v9, v10, v11, v12, v13, v14, v15, .int 0, v16, v17, v18, v19, v20])), (h3, .inr (6, [.int 0, .ref h4, v22, v23, v24, v25, v26, v27, v28, v29, v30, v31, v32, v33, v34, v35, v36, v37, v38, v39, v40, v41, v42, v43, v44, v45, v46])), (h4, .inl (a1, 609, .inr (.inl f1)))]) (tr := [(a0, .long), (a1, .long)]) hx hb hml hown hg okN (cX6_thrown_1 l D h3 (.ref h4) v22 v23 v24 v25 v26 v27 v28 v29 v30 v31 v32 v33 v34 v35 v36 v37 v38 v39 v40 v41 v42 v43 v44 v45 v46) (mwV k1301 k1302 k1303 k92 k1304) ⟨rfl, by decide, by decide, by decide +kernel⟩ ⟨rfl, rfl, (Nat.le_of_ble_eq_true rfl), (Nat.le_of_ble_eq_true rfl)⟩ hP hD hK hS xn [3] [] [0, 1, 2, 3, 4] [] [0, 1] rfl (by decide) rfl rfl (by decide) (by decide) rfl rfl (aNil hA hS) (aNil hA hS) 3 rfl rfl rfl hl.1 rfl (Nat.le_of_ble_eq_true rfl) dL_law_445 ⟨(Nat.le_of_ble_eq_true rfl), (Nat.le_of_ble_eq_true rfl)⟩ (fun u H locs hφ hP hD hK hS hk => ?_)
  have hP : va_P D vwCl [(h0, .inr (5, [v0, v1, v2, .ref h1, v3, v4, v5, v6, v7, v8])), (h2, .inl (a0, 1, .inr (.inl (vp_updL f0 0 0)))), (h1, .inr (1, [v9, v10, v11, v12, v13, v14, v15, .int 0, v16, v17, v18, v19, v20])), (h3, .inr (6, [.int 0, .ref h4, v22, v23, v24, v25, v26, v27, v28, v29, v30, v31, v32, v33, v34, v35, v36, v37, v38, v39, v40, v41, v42, v43, v44, v45, v46])), (h4, .inl (a1, 609, .inr (.inl f1)))] H := hP
  have hD : va_D A [(h0, .inr (5, [v0, v1, v2, .ref h1, v3, v4, v5, v6, v7, v8])), (h2, .inl (a0, 1, .inr (.inl (vp_updL f0 0 0)))), (h1, .inr (1, [v9, v10, v11, v12, v13, v14, v15, .int 0, v16, v17, v18, v19, v20])), (h3, .inr (6, [.int 0, .ref h4, v22, v23, v24, v25, v26, v27, v28, v29, v30, v31, v32, v33, v34, v35, v36, v37, v38, v39, v40, v41, v42, v43, v44, v45, v46])), (h4, .inl (a1, 609, .inr (.inl f1)))] := hD
  have hK : va_K D vwCl [(a0, .long), (a1, .long)] s := hK
  refine W.widen (k := 1010) (n := 8898) (Nat.le_of_ble_eq_true rfl) (Nat.le_of_ble_eq_true rfl) ?_
  refine lv_iload hx hb dL_law_448 (lv_at hl 1 rfl) ?_
  refine lv_icmp_eq (tgt := 455) hx hb dL_law_450 (by decide) (fun _ => ?_) (fun c9 => absurd (by decide) c9)
  refine lv_iload hx hb dL_law_455 (lv_at hl 1 rfl) ?_
  refine lv_if_ne (tgt := 472) hx hb dL_law_457 (by decide) (fun c9 => absurd (by decide) c9) (fun _ => ?_)
  refine lv_aload_n hx hb dL_law_460 rfl (lv_at hl 3 rfl) ?_
  refine lv_iconst (v := 0) hx hb dL_law_461 (by decide) ?_
  refine aldL hx hb hK hP 1 0 rfl rfl 0 (by decide) (vin (by decide)) (v := 0) rfl dL_law_462 ?_
  refine lv_iload hx hb dL_law_463 (lv_at hl 0 rfl) ?_
  refine lv_i2l (v := 0) hx hb dL_law_465 (by decide) ?_
  refine W.lcmp hx hb dL_law_466 ?_
  refine ti (0) (by decide) ?_
  refine lv_if_eq (tgt := 472) hx hb dL_law_467 (by decide) (fun _ => ?_) (fun c9 => absurd (by decide) c9)
  refine lv_goto (tgt := 2199) hx hb dL_law_472 (by decide) ?_
  refine W.widen (k := 3000) (n := 30000) (Nat.le_of_ble_eq_true rfl) (Nat.le_of_ble_eq_true rfl) ?_
  exact kk _ _ _ hS (lv_sub hl [2, 6] rfl)
set_option maxHeartbeats 4000000 in
set_option maxRecDepth 100000 in
theorem law_5_6 {p : Program} {e : Env} {s : State} {m : MethodId} {below : List Frame} {meth : Method} {c : Code} (l : Launch) (hlt : l.stackTraces = false) {b : Nat} {xs : Nat → Int32} (hx : p.tables.exec = Jvm.exec) (hb : c.code = cL_law) (hml : c.maxLocals = 9) (hown : s.vm.findClass RL = some m.cls) (hg : ∀ w ∈ GW, w.before #[Value.ref b] s = true) (hXs : va_X b 6 xs s s.heap) (hbl : b < s.heap.size) (D : va_G) {A : Nat → Prop} (hA : ∀ q, s.heap.size ≤ q → A q) (hbA : ¬ A b) (hX : XX A s s.heap) (Q : State → Prop) (h0 : Nat) (h1 : Nat) (h2 : Nat) (h3 : Nat) (h4 : Nat) (v0 : Value) (v1 : Value) (v2 : Value) (v3 : Value) (v4 : Value) (v5 : Value) (v6 : Value) (v7 : Value) (v8 : Value) (v9 : Value) (v10 : Value) (v11 : Value) (v12 : Value) (v13 : Value) (v14 : Value) (v15 : Value) (v16 : Value) (v17 : Value) (v18 : Value) (v19 : Value) (v20 : Value) (f0 : Nat → Int64) (v21 : Value) (v22 : Value) (v23 : Value) (v24 : Value) (v25 : Value) (v26 : Value) (v27 : Value) (v28 : Value) (v29 : Value) (v30 : Value) (v31 : Value) (v32 : Value) (v33 : Value) (v34 : Value) (v35 : Value) (v36 : Value) (v37 : Value) (v38 : Value) (v39 : Value) (v40 : Value) (v41 : Value) (v42 : Value) (v43 : Value) (v44 : Value) (v45 : Value) (v46 : Value) (f1 : Nat → Int64) (a0 : ClassId) (a1 : ClassId) (ef1_1 : f1 1 = 2) (e1 : xs 1 = 5) {H : Heap} {locs : List Loc} {ls : Array Slot} (hP : va_P D vwCl [(h0, .inr (5, [v0, v1, v2, .ref h1, v3, v4, v5, v6, v7, v8])), (h1, .inr (1, [v9, v10, v11, v12, v13, v14, v15, v16, .int 2, v17, v18, v19, v20])), (h2, .inl (a0, 1, .inr (.inl f0))), (h3, .inr (6, [v21, .ref h4, v22, v23, v24, v25, v26, v27, v28, v29, v30, v31, v32, v33, v34, v35, v36, v37, v38, v39, v40, v41, v42, v43, v44, v45, v46])), (h4, .inl (a1, 609, .inr (.inl f1)))] H) (hD : va_D A [(h0, .inr (5, [v0, v1, v2, .ref h1, v3, v4, v5, v6, v7, v8])), (h1, .inr (1, [v9, v10, v11, v12, v13, v14, v15, v16, .int 2, v17, v18, v19, v20])), (h2, .inl (a0, 1, .inr (.inl f0))), (h3, .inr (6, [v21, .ref h4, v22, v23, v24, v25, v26, v27, v28, v29, v30, v31, v32, v33, v34, v35, v36, v37, v38, v39, v40, v41, v42, v43, v44, v45, v46])), (h4, .inl (a1, 609, .inr (.inl f1)))]) (hK : va_K D vwCl [(a0, .long), (a1, .long)] s) (hS : va_S A s.heap H locs) (hl : lv_has ls 9 [(4, .int 0), (3, .ref h2), (2, .ref h3), (1, .ref h0), (0, .ref b)]) (kk : ∀ (H : Heap) (locs : List Loc) (ls : Array Slot), va_S A s.heap H locs → lv_has ls 9 [(4, .int 0), (0, .ref b)] → W p l e room_1 s m #[Value.ref b] below meth c H locs 3000 30000 Q (F0 m 2199 ls [])) : W p l e room_1 s m #[Value.ref b] below meth c H locs 1010 8898 Q (F0 m 419 ls []) := by
  refine lv_aload_n hx hb dL_law_419 rfl (lv_at hl 3 rfl) ?_
  refine lv_aload_n hx hb dL_law_420 rfl (lv_at hl 4 rfl) ?_
  refine lv_iload hx hb dL_law_421 (lv_at hl 0 rfl) ?_
  refine lv_iconst (v := 1) hx hb dL_law_423 (by decide) ?_
  refine lv_iadd hx hb dL_law_424 ?_
  refine ti (1) (by decide) ?_
  refine va_sld hx hb hXs hbl hbA hS (vin (by decide)) dL_law_425 ?_
  refine ti 5 e1 ?_
  refine lv_aload_n hx hb dL_law_426 rfl (lv_at hl 1 rfl) ?_
  refine cHi (n := 3) (As := [.ref h0, .int 5, .ref h2]) (rest := []) (wr := [(h3, .inr (6, [v21, .ref h4, v22, v23, v24, v25, v26, v27, v28, v29, v30, v31, v32, v33, v34, v35, v36, v37, v38, v39, v40, v41, v42, v43, v44, v45, v46])), (h4, .inl (a1, 609, .inr (.inl f1)))]) (tr := [(a1, .long)]) hx hb hml hown hg okN (cL_count_611 l D h0 h2 h1 v0 v1 v2 v3 v4 v5 v6 v7 v8 f0 v9 v10 v11 v12 v13 v14 v15 v16 v17 v18 v19 v20 a0) (mwHS k834 k835 k83 k836) ⟨by decide, by decide, by decide +kernel⟩ ⟨rfl, rfl, (Nat.le_of_ble_eq_true rfl), (Nat.le_of_ble_eq_true rfl)⟩ hP hD hK hS xn [0, 2, 1] [0, 2, 1] [3, 4] [0] [1] rfl (by decide) rfl rfl (by decide) (by decide) rfl rfl (va_free hD hS hA [0, 2, 1] rfl) (va_free hD hS hA [0, 2, 1] rfl) rfl hl.1 rfl (Nat.le_of_ble_eq_true rfl) dL_law_427 ⟨(Nat.le_of_ble_eq_true rfl), (Nat.le_of_ble_eq_true rfl)⟩ (fun u H locs hφ hP hD hK hS hk => ?_)
  have hP : va_P D vwCl [(h3, .inr (6, [v21, .ref h4, v22, v23, v24, v25, v26, v27, v28, v29, v30, v31, v32, v33, v34, v35, v36, v37, v38, v39, v40, v41, v42, v43, v44, v45, v46])), (h4, .inl (a1, 609, .inr (.inl f1))), (h0, .inr (5, [v0, v1, v2, .ref h1, v3, v4, v5, v6, v7, v8])), (h2, .inl (a0, 1, .inr (.inl (vp_updL f0 0 2)))), (h1, .inr (1, [v9, v10, v11, v12, v13, v14, v15, v16, .int 2, v17, v18, v19, v20]))] H := hP
  have hD : va_D A [(h3, .inr (6, [v21, .ref h4, v22, v23, v24, v25, v26, v27, v28, v29, v30, v31, v32, v33, v34, v35, v36, v37, v38, v39, v40, v41, v42, v43, v44, v45, v46])), (h4, .inl (a1, 609, .inr (.inl f1))), (h0, .inr (5, [v0, v1, v2, .ref h1, v3, v4, v5, v6, v7, v8])), (h2, .inl (a0, 1, .inr (.inl (vp_updL f0 0 2)))), (h1, .inr (1, [v9, v10, v11, v12, v13, v14, v15, v16, .int 2, v17, v18, v19, v20]))] := hD
  have hK : va_K D vwCl [(a1, .long), (a0, .long)] s := hK
  refine W.widen (k := 1010) (n := 8898) (Nat.le_of_ble_eq_true rfl) (Nat.le_of_ble_eq_true rfl) ?_
  refine lv_istore (lv' := [(5, .int 0), (4, .int 0), (3, .ref h2), (2, .ref h3), (1, .ref h0), (0, .ref b)]) hx hb dL_law_430 hl (by decide) rfl (fun ls hl => ?_)
  refine lv_aload_n hx hb dL_law_432 rfl (lv_at hl 3 rfl) ?_
  refine lv_aload_n hx hb dL_law_433 rfl (lv_at hl 5 rfl) ?_
  refine lv_iload hx hb dL_law_434 (lv_at hl 1 rfl) ?_
  refine lv_iconst (v := 1) hx hb dL_law_436 (by decide) ?_
  refine lv_iadd hx hb dL_law_437 ?_
  refine ti (1) (by decide) ?_
  refine va_sld hx hb hXs hbl hbA hS (vin (by decide)) dL_law_438 ?_
  refine ti 5 e1 ?_
  refine cVi (n := 1) (As := [.int 5]) (rest := []) (wr := [(h0, .inr (5, [v0, v1, v2, .ref h1, v3, v4, v5, v6, v7, v8])), (h2, .inl (a0, 1, .inr (.inl (vp_updL f0 0 2)))), (h1, .inr (1, [v9, v10, v11, v12, v13, v14, v15, v16, .int 2, v17, v18, v19, v20]))]) (tr := [(a0, .long)]) hx hb hml hown hg okN (cX6_count_43 l D h3 h4 v21 v22 v23 v24 v25 v26 v27 v28 v29 v30 v31 v32 v33 v34 v35 v36 v37 v38 v39 v40 v41 v42 v43 v44 v45 v46 f1 a1 ef1_1) (mwV k1407 k1408 k1409 k92 k1410) ⟨rfl, by decide, by decide, by decide +kernel⟩ ⟨rfl, rfl, (Nat.le_of_ble_eq_true rfl), (Nat.le_of_ble_eq_true rfl)⟩ hP hD hK hS xn [0, 1] [0, 1] [2, 3, 4] [0] [1] rfl (by decide) rfl rfl (by decide) (by decide) rfl rfl (va_free hD hS hA [0, 1] rfl) (va_free hD hS hA [0, 1] rfl) 0 rfl rfl rfl hl.1 rfl (Nat.le_of_ble_eq_true rfl) dL_law_439 ⟨(Nat.le_of_ble_eq_true rfl), (Nat.le_of_ble_eq_true rfl)⟩ (fun u H locs hφ hP hD hK hS hk => ?_)
  have hP : va_P D vwCl [(h0, .inr (5, [v0, v1, v2, .ref h1, v3, v4, v5, v6, v7, v8])), (h2, .inl (a0, 1, .inr (.inl (vp_updL f0 0 2)))), (h1, .inr (1, [v9, v10, v11, v12, v13, v14, v15, v16, .int 2, v17, v18, v19, v20])), (h3, .inr (6, [.int 0, .ref h4, v22, v23, v24, v25, v26, v27, v28, v29, v30, v31, v32, v33, v34, v35, v36, v37, v38, v39, v40, v41, v42, v43, v44, v45, v46])), (h4, .inl (a1, 609, .inr (.inl f1)))] H := hP
  have hD : va_D A [(h0, .inr (5, [v0, v1, v2, .ref h1, v3, v4, v5, v6, v7, v8])), (h2, .inl (a0, 1, .inr (.inl (vp_updL f0 0 2)))), (h1, .inr (1, [v9, v10, v11, v12, v13, v14, v15, v16, .int 2, v17, v18, v19, v20])), (h3, .inr (6, [.int 0, .ref h4, v22, v23, v24, v25, v26, v27, v28, v29, v30, v31, v32, v33, v34, v35, v36, v37, v38, v39, v40, v41, v42, v43, v44, v45, v46])), (h4, .inl (a1, 609, .inr (.inl f1)))] := hD
  have hK : va_K D vwCl [(a0, .long), (a1, .long)] s := hK
  refine W.widen (k := 1010) (n := 8898) (Nat.le_of_ble_eq_true rfl) (Nat.le_of_ble_eq_true rfl) ?_
  refine lv_istore (lv' := [(6, .int 2), (5, .int 0), (4, .int 0), (3, .ref h2), (2, .ref h3), (1, .ref h0), (0, .ref b)]) hx hb dL_law_442 hl (by decide) rfl (fun ls hl => ?_)
  refine lv_aload_n hx hb dL_law_444 rfl (lv_at hl 4 rfl) ?_
  refine cVi (n := 0) (As := []) (rest := []) (wr := [(h0, .inr (5, [v0, v1, v2, .ref h1, v3, v4, v5, v6, v7, v8])), (h2, .inl (a0, 1, .inr (.inl (vp_updL f0 0 2)))), (h1, .inr (1, [v9, v10, v11, v12, v13, v14, v15, v16, .int 2, v17, v18, v19, v20])), (h3, .inr (6, [.int 0, .ref h4, v22, v23, v24, v25, v26, v27, v28, v29, v30, v31, v32, v33, v34, v35, v36, v37, v38, v39, v40, v41, v42, v43, v44, v45, v46])), (h4, .inl (a1, 609, .inr (.inl f1)))]) (tr := [(a0, .long), (a1, .long)]) hx hb hml hown hg okN (cX6_thrown_1 l D h3 (.ref h4) v22 v23 v24 v25 v26 v27 v28 v29 v30 v31 v32 v33 v34 v35 v36 v37 v38 v39 v40 v41 v42 v43 v44 v45 v46) (mwV k1301 k1302 k1303 k92 k1304) ⟨rfl, by decide, by decide, by decide +kernel⟩ ⟨rfl, rfl, (Nat.le_of_ble_eq_true rfl), (Nat.le_of_ble_eq_true rfl)⟩ hP hD hK hS xn [3] [] [0, 1, 2, 3, 4] [] [0, 1] rfl (by decide) rfl rfl (by decide) (by decide) rfl rfl (aNil hA hS) (aNil hA hS) 3 rfl rfl rfl hl.1 rfl (Nat.le_of_ble_eq_true rfl) dL_law_445 ⟨(Nat.le_of_ble_eq_true rfl), (Nat.le_of_ble_eq_true rfl)⟩ (fun u H locs hφ hP hD hK hS hk => ?_)
  have hP : va_P D vwCl [(h0, .inr (5, [v0, v1, v2, .ref h1, v3, v4, v5, v6, v7, v8])), (h2, .inl (a0, 1, .inr (.inl (vp_updL f0 0 2)))), (h1, .inr (1, [v9, v10, v11, v12, v13, v14, v15, v16, .int 2, v17, v18, v19, v20])), (h3, .inr (6, [.int 0, .ref h4, v22, v23, v24, v25, v26, v27, v28, v29, v30, v31, v32, v33, v34, v35, v36, v37, v38, v39, v40, v41, v42, v43, v44, v45, v46])), (h4, .inl (a1, 609, .inr (.inl f1)))] H := hP
  have hD : va_D A [(h0, .inr (5, [v0, v1, v2, .ref h1, v3, v4, v5, v6, v7, v8])), (h2, .inl (a0, 1, .inr (.inl (vp_updL f0 0 2)))), (h1, .inr (1, [v9, v10, v11, v12, v13, v14, v15, v16, .int 2, v17, v18, v19, v20])), (h3, .inr (6, [.int 0, .ref h4, v22, v23, v24, v25, v26, v27, v28, v29, v30, v31, v32, v33, v34, v35, v36, v37, v38, v39, v40, v41, v42, v43, v44, v45, v46])), (h4, .inl (a1, 609, .inr (.inl f1)))] := hD
  have hK : va_K D vwCl [(a0, .long), (a1, .long)] s := hK
  refine W.widen (k := 1010) (n := 8898) (Nat.le_of_ble_eq_true rfl) (Nat.le_of_ble_eq_true rfl) ?_
  refine lv_iload hx hb dL_law_448 (lv_at hl 1 rfl) ?_
  refine lv_icmp_eq (tgt := 455) hx hb dL_law_450 (by decide) (fun _ => ?_) (fun c9 => absurd (by decide) c9)
  refine lv_iload hx hb dL_law_455 (lv_at hl 1 rfl) ?_
  refine lv_if_ne (tgt := 472) hx hb dL_law_457 (by decide) (fun c9 => absurd (by decide) c9) (fun _ => ?_)
  refine lv_aload_n hx hb dL_law_460 rfl (lv_at hl 3 rfl) ?_
  refine lv_iconst (v := 0) hx hb dL_law_461 (by decide) ?_
  refine aldL hx hb hK hP 1 0 rfl rfl 0 (by decide) (vin (by decide)) (v := 2) rfl dL_law_462 ?_
  refine lv_iload hx hb dL_law_463 (lv_at hl 0 rfl) ?_
  refine lv_i2l (v := 2) hx hb dL_law_465 (by decide) ?_
  refine W.lcmp hx hb dL_law_466 ?_
  refine ti (0) (by decide) ?_
  refine lv_if_eq (tgt := 472) hx hb dL_law_467 (by decide) (fun _ => ?_) (fun c9 => absurd (by decide) c9)
  refine lv_goto (tgt := 2199) hx hb dL_law_472 (by decide) ?_
  refine W.widen (k := 3000) (n := 30000) (Nat.le_of_ble_eq_true rfl) (Nat.le_of_ble_eq_true rfl) ?_
  exact kk _ _ _ hS (lv_sub hl [2, 6] rfl)
set_option maxHeartbeats 4000000 in
set_option maxRecDepth 100000 in
theorem law_5_7 {p : Program} {e : Env} {s : State} {m : MethodId} {below : List Frame} {meth : Method} {c : Code} (l : Launch) (hlt : l.stackTraces = false) {b : Nat} {xs : Nat → Int32} (hx : p.tables.exec = Jvm.exec) (hb : c.code = cL_law) (hml : c.maxLocals = 9) (hown : s.vm.findClass RL = some m.cls) (hg : ∀ w ∈ GW, w.before #[Value.ref b] s = true) (hXs : va_X b 6 xs s s.heap) (hbl : b < s.heap.size) (D : va_G) {A : Nat → Prop} (hA : ∀ q, s.heap.size ≤ q → A q) (hbA : ¬ A b) (hX : XX A s s.heap) (Q : State → Prop) (h0 : Nat) (h1 : Nat) (h2 : Nat) (h3 : Nat) (h4 : Nat) (v0 : Value) (v1 : Value) (v2 : Value) (v3 : Value) (v4 : Value) (v5 : Value) (v6 : Value) (v7 : Value) (v8 : Value) (v9 : Value) (v10 : Value) (v11 : Value) (v12 : Value) (v13 : Value) (v14 : Value) (v15 : Value) (v16 : Value) (v17 : Value) (v18 : Value) (v19 : Value) (v20 : Value) (f0 : Nat → Int64) (v21 : Value) (v22 : Value) (v23 : Value) (v24 : Value) (v25 : Value) (v26 : Value) (v27 : Value) (v28 : Value) (v29 : Value) (v30 : Value) (v31 : Value) (v32 : Value) (v33 : Value) (v34 : Value) (v35 : Value) (v36 : Value) (v37 : Value) (v38 : Value) (v39 : Value) (v40 : Value) (v41 : Value) (v42 : Value) (v43 : Value) (v44 : Value) (v45 : Value) (v46 : Value) (f1 : Nat → Int64) (a0 : ClassId) (a1 : ClassId) (ef1_2 : f1 2 = 1) (e1 : xs 1 = 6) {H : Heap} {locs : List Loc} {ls : Array Slot} (hP : va_P D vwCl [(h0, .inr (5, [v0, v1, v2, .ref h1, v3, v4, v5, v6, v7, v8])), (h1, .inr (1, [v9, v10, v11, v12, v13, v14, v15, v16, v17, .int 1, v18, v19, v20])), (h2, .inl (a0, 1, .inr (.inl f0))), (h3, .inr (6, [v21, .ref h4, v22, v23, v24, v25, v26, v27, v28, v29, v30, v31, v32, v33, v34, v35, v36, v37, v38, v39, v40, v41, v42, v43, v44, v45, v46])), (h4, .inl (a1, 609, .inr (.inl f1)))] H) (hD : va_D A [(h0, .inr (5, [v0, v1, v2, .ref h1, v3, v4, v5, v6, v7, v8])), (h1, .inr (1, [v9, v10, v11, v12, v13, v14, v15, v16, v17, .int 1, v18, v19, v20])), (h2, .inl (a0, 1, .inr (.inl f0))), (h3, .inr (6, [v21, .ref h4, v22, v23, v24, v25, v26, v27, v28, v29, v30, v31, v32, v33, v34, v35, v36, v37, v38, v39, v40, v41, v42, v43, v44, v45, v46])), (h4, .inl (a1, 609, .inr (.inl f1)))]) (hK : va_K D vwCl [(a0, .long), (a1, .long)] s) (hS : va_S A s.heap H locs) (hl : lv_has ls 9 [(4, .int 0), (3, .ref h2), (2, .ref h3), (1, .ref h0), (0, .ref b)]) (kk : ∀ (H : Heap) (locs : List Loc) (ls : Array Slot), va_S A s.heap H locs → lv_has ls 9 [(4, .int 0), (0, .ref b)] → W p l e room_1 s m #[Value.ref b] below meth c H locs 3000 30000 Q (F0 m 2199 ls [])) : W p l e room_1 s m #[Value.ref b] below meth c H locs 1010 8898 Q (F0 m 419 ls []) := by
  refine lv_aload_n hx hb dL_law_419 rfl (lv_at hl 3 rfl) ?_
  refine lv_aload_n hx hb dL_law_420 rfl (lv_at hl 4 rfl) ?_
  refine lv_iload hx hb dL_law_421 (lv_at hl 0 rfl) ?_
  refine lv_iconst (v := 1) hx hb dL_law_423 (by decide) ?_
  refine lv_iadd hx hb dL_law_424 ?_
  refine ti (1) (by decide) ?_
  refine va_sld hx hb hXs hbl hbA hS (vin (by decide)) dL_law_425 ?_
  refine ti 6 e1 ?_
  refine lv_aload_n hx hb dL_law_426 rfl (lv_at hl 1 rfl) ?_
  refine cHi (n := 3) (As := [.ref h0, .int 6, .ref h2]) (rest := []) (wr := [(h3, .inr (6, [v21, .ref h4, v22, v23, v24, v25, v26, v27, v28, v29, v30, v31, v32, v33, v34, v35, v36, v37, v38, v39, v40, v41, v42, v43, v44, v45, v46])), (h4, .inl (a1, 609, .inr (.inl f1)))]) (tr := [(a1, .long)]) hx hb hml hown hg okN (cL_count_612 l D h0 h2 h1 v0 v1 v2 v3 v4 v5 v6 v7 v8 f0 v9 v10 v11 v12 v13 v14 v15 v16 v17 v18 v19 v20 a0) (mwHS k834 k835 k83 k836) ⟨by decide, by decide, by decide +kernel⟩ ⟨rfl, rfl, (Nat.le_of_ble_eq_true rfl), (Nat.le_of_ble_eq_true rfl)⟩ hP hD hK hS xn [0, 2, 1] [0, 2, 1] [3, 4] [0] [1] rfl (by decide) rfl rfl (by decide) (by decide) rfl rfl (va_free hD hS hA [0, 2, 1] rfl) (va_free hD hS hA [0, 2, 1] rfl) rfl hl.1 rfl (Nat.le_of_ble_eq_true rfl) dL_law_427 ⟨(Nat.le_of_ble_eq_true rfl), (Nat.le_of_ble_eq_true rfl)⟩ (fun u H locs hφ hP hD hK hS hk => ?_)
  have hP : va_P D vwCl [(h3, .inr (6, [v21, .ref h4, v22, v23, v24, v25, v26, v27, v28, v29, v30, v31, v32, v33, v34, v35, v36, v37, v38, v39, v40, v41, v42, v43, v44, v45, v46])), (h4, .inl (a1, 609, .inr (.inl f1))), (h0, .inr (5, [v0, v1, v2, .ref h1, v3, v4, v5, v6, v7, v8])), (h2, .inl (a0, 1, .inr (.inl (vp_updL f0 0 1)))), (h1, .inr (1, [v9, v10, v11, v12, v13, v14, v15, v16, v17, .int 1, v18, v19, v20]))] H := hP
  have hD : va_D A [(h3, .inr (6, [v21, .ref h4, v22, v23, v24, v25, v26, v27, v28, v29, v30, v31, v32, v33, v34, v35, v36, v37, v38, v39, v40, v41, v42, v43, v44, v45, v46])), (h4, .inl (a1, 609, .inr (.inl f1))), (h0, .inr (5, [v0, v1, v2, .ref h1, v3, v4, v5, v6, v7, v8])), (h2, .inl (a0, 1, .inr (.inl (vp_updL f0 0 1)))), (h1, .inr (1, [v9, v10, v11, v12, v13, v14, v15, v16, v17, .int 1, v18, v19, v20]))] := hD
  have hK : va_K D vwCl [(a1, .long), (a0, .long)] s := hK
  refine W.widen (k := 1010) (n := 8898) (Nat.le_of_ble_eq_true rfl) (Nat.le_of_ble_eq_true rfl) ?_
  refine lv_istore (lv' := [(5, .int 0), (4, .int 0), (3, .ref h2), (2, .ref h3), (1, .ref h0), (0, .ref b)]) hx hb dL_law_430 hl (by decide) rfl (fun ls hl => ?_)
  refine lv_aload_n hx hb dL_law_432 rfl (lv_at hl 3 rfl) ?_
  refine lv_aload_n hx hb dL_law_433 rfl (lv_at hl 5 rfl) ?_
  refine lv_iload hx hb dL_law_434 (lv_at hl 1 rfl) ?_
  refine lv_iconst (v := 1) hx hb dL_law_436 (by decide) ?_
  refine lv_iadd hx hb dL_law_437 ?_
  refine ti (1) (by decide) ?_
  refine va_sld hx hb hXs hbl hbA hS (vin (by decide)) dL_law_438 ?_
  refine ti 6 e1 ?_
  refine cVi (n := 1) (As := [.int 6]) (rest := []) (wr := [(h0, .inr (5, [v0, v1, v2, .ref h1, v3, v4, v5, v6, v7, v8])), (h2, .inl (a0, 1, .inr (.inl (vp_updL f0 0 1)))), (h1, .inr (1, [v9, v10, v11, v12, v13, v14, v15, v16, v17, .int 1, v18, v19, v20]))]) (tr := [(a0, .long)]) hx hb hml hown hg okN (cX6_count_45 l D h3 h4 v21 v22 v23 v24 v25 v26 v27 v28 v29 v30 v31 v32 v33 v34 v35 v36 v37 v38 v39 v40 v41 v42 v43 v44 v45 v46 f1 a1 ef1_2) (mwV k1407 k1408 k1409 k92 k1410) ⟨rfl, by decide, by decide, by decide +kernel⟩ ⟨rfl, rfl, (Nat.le_of_ble_eq_true rfl), (Nat.le_of_ble_eq_true rfl)⟩ hP hD hK hS xn [0, 1] [0, 1] [2, 3, 4] [0] [1] rfl (by decide) rfl rfl (by decide) (by decide) rfl rfl (va_free hD hS hA [0, 1] rfl) (va_free hD hS hA [0, 1] rfl) 0 rfl rfl rfl hl.1 rfl (Nat.le_of_ble_eq_true rfl) dL_law_439 ⟨(Nat.le_of_ble_eq_true rfl), (Nat.le_of_ble_eq_true rfl)⟩ (fun u H locs hφ hP hD hK hS hk => ?_)
  have hP : va_P D vwCl [(h0, .inr (5, [v0, v1, v2, .ref h1, v3, v4, v5, v6, v7, v8])), (h2, .inl (a0, 1, .inr (.inl (vp_updL f0 0 1)))), (h1, .inr (1, [v9, v10, v11, v12, v13, v14, v15, v16, v17, .int 1, v18, v19, v20])), (h3, .inr (6, [.int 0, .ref h4, v22, v23, v24, v25, v26, v27, v28, v29, v30, v31, v32, v33, v34, v35, v36, v37, v38, v39, v40, v41, v42, v43, v44, v45, v46])), (h4, .inl (a1, 609, .inr (.inl f1)))] H := hP
  have hD : va_D A [(h0, .inr (5, [v0, v1, v2, .ref h1, v3, v4, v5, v6, v7, v8])), (h2, .inl (a0, 1, .inr (.inl (vp_updL f0 0 1)))), (h1, .inr (1, [v9, v10, v11, v12, v13, v14, v15, v16, v17, .int 1, v18, v19, v20])), (h3, .inr (6, [.int 0, .ref h4, v22, v23, v24, v25, v26, v27, v28, v29, v30, v31, v32, v33, v34, v35, v36, v37, v38, v39, v40, v41, v42, v43, v44, v45, v46])), (h4, .inl (a1, 609, .inr (.inl f1)))] := hD
  have hK : va_K D vwCl [(a0, .long), (a1, .long)] s := hK
  refine W.widen (k := 1010) (n := 8898) (Nat.le_of_ble_eq_true rfl) (Nat.le_of_ble_eq_true rfl) ?_
  refine lv_istore (lv' := [(6, .int 1), (5, .int 0), (4, .int 0), (3, .ref h2), (2, .ref h3), (1, .ref h0), (0, .ref b)]) hx hb dL_law_442 hl (by decide) rfl (fun ls hl => ?_)
  refine lv_aload_n hx hb dL_law_444 rfl (lv_at hl 4 rfl) ?_
  refine cVi (n := 0) (As := []) (rest := []) (wr := [(h0, .inr (5, [v0, v1, v2, .ref h1, v3, v4, v5, v6, v7, v8])), (h2, .inl (a0, 1, .inr (.inl (vp_updL f0 0 1)))), (h1, .inr (1, [v9, v10, v11, v12, v13, v14, v15, v16, v17, .int 1, v18, v19, v20])), (h3, .inr (6, [.int 0, .ref h4, v22, v23, v24, v25, v26, v27, v28, v29, v30, v31, v32, v33, v34, v35, v36, v37, v38, v39, v40, v41, v42, v43, v44, v45, v46])), (h4, .inl (a1, 609, .inr (.inl f1)))]) (tr := [(a0, .long), (a1, .long)]) hx hb hml hown hg okN (cX6_thrown_1 l D h3 (.ref h4) v22 v23 v24 v25 v26 v27 v28 v29 v30 v31 v32 v33 v34 v35 v36 v37 v38 v39 v40 v41 v42 v43 v44 v45 v46) (mwV k1301 k1302 k1303 k92 k1304) ⟨rfl, by decide, by decide, by decide +kernel⟩ ⟨rfl, rfl, (Nat.le_of_ble_eq_true rfl), (Nat.le_of_ble_eq_true rfl)⟩ hP hD hK hS xn [3] [] [0, 1, 2, 3, 4] [] [0, 1] rfl (by decide) rfl rfl (by decide) (by decide) rfl rfl (aNil hA hS) (aNil hA hS) 3 rfl rfl rfl hl.1 rfl (Nat.le_of_ble_eq_true rfl) dL_law_445 ⟨(Nat.le_of_ble_eq_true rfl), (Nat.le_of_ble_eq_true rfl)⟩ (fun u H locs hφ hP hD hK hS hk => ?_)
  have hP : va_P D vwCl [(h0, .inr (5, [v0, v1, v2, .ref h1, v3, v4, v5, v6, v7, v8])), (h2, .inl (a0, 1, .inr (.inl (vp_updL f0 0 1)))), (h1, .inr (1, [v9, v10, v11, v12, v13, v14, v15, v16, v17, .int 1, v18, v19, v20])), (h3, .inr (6, [.int 0, .ref h4, v22, v23, v24, v25, v26, v27, v28, v29, v30, v31, v32, v33, v34, v35, v36, v37, v38, v39, v40, v41, v42, v43, v44, v45, v46])), (h4, .inl (a1, 609, .inr (.inl f1)))] H := hP
  have hD : va_D A [(h0, .inr (5, [v0, v1, v2, .ref h1, v3, v4, v5, v6, v7, v8])), (h2, .inl (a0, 1, .inr (.inl (vp_updL f0 0 1)))), (h1, .inr (1, [v9, v10, v11, v12, v13, v14, v15, v16, v17, .int 1, v18, v19, v20])), (h3, .inr (6, [.int 0, .ref h4, v22, v23, v24, v25, v26, v27, v28, v29, v30, v31, v32, v33, v34, v35, v36, v37, v38, v39, v40, v41, v42, v43, v44, v45, v46])), (h4, .inl (a1, 609, .inr (.inl f1)))] := hD
  have hK : va_K D vwCl [(a0, .long), (a1, .long)] s := hK
  refine W.widen (k := 1010) (n := 8898) (Nat.le_of_ble_eq_true rfl) (Nat.le_of_ble_eq_true rfl) ?_
  refine lv_iload hx hb dL_law_448 (lv_at hl 1 rfl) ?_
  refine lv_icmp_eq (tgt := 455) hx hb dL_law_450 (by decide) (fun _ => ?_) (fun c9 => absurd (by decide) c9)
  refine lv_iload hx hb dL_law_455 (lv_at hl 1 rfl) ?_
  refine lv_if_ne (tgt := 472) hx hb dL_law_457 (by decide) (fun c9 => absurd (by decide) c9) (fun _ => ?_)
  refine lv_aload_n hx hb dL_law_460 rfl (lv_at hl 3 rfl) ?_
  refine lv_iconst (v := 0) hx hb dL_law_461 (by decide) ?_
  refine aldL hx hb hK hP 1 0 rfl rfl 0 (by decide) (vin (by decide)) (v := 1) rfl dL_law_462 ?_
  refine lv_iload hx hb dL_law_463 (lv_at hl 0 rfl) ?_
  refine lv_i2l (v := 1) hx hb dL_law_465 (by decide) ?_
  refine W.lcmp hx hb dL_law_466 ?_
  refine ti (0) (by decide) ?_
  refine lv_if_eq (tgt := 472) hx hb dL_law_467 (by decide) (fun _ => ?_) (fun c9 => absurd (by decide) c9)
  refine lv_goto (tgt := 2199) hx hb dL_law_472 (by decide) ?_
  refine W.widen (k := 3000) (n := 30000) (Nat.le_of_ble_eq_true rfl) (Nat.le_of_ble_eq_true rfl) ?_
  exact kk _ _ _ hS (lv_sub hl [2, 6] rfl)
set_option maxHeartbeats 4000000 in
set_option maxRecDepth 100000 in
theorem law_5_8 {p : Program} {e : Env} {s : State} {m : MethodId} {below : List Frame} {meth : Method} {c : Code} (l : Launch) (hlt : l.stackTraces = false) {b : Nat} {xs : Nat → Int32} (hx : p.tables.exec = Jvm.exec) (hb : c.code = cL_law) (hml : c.maxLocals = 9) (hown : s.vm.findClass RL = some m.cls) (hg : ∀ w ∈ GW, w.before #[Value.ref b] s = true) (hXs : va_X b 6 xs s s.heap) (hbl : b < s.heap.size) (D : va_G) {A : Nat → Prop} (hA : ∀ q, s.heap.size ≤ q → A q) (hbA : ¬ A b) (hX : XX A s s.heap) (Q : State → Prop) (h0 : Nat) (h1 : Nat) (h2 : Nat) (h3 : Nat) (v0 : Value) (v1 : Value) (v2 : Value) (v3 : Value) (v4 : Value) (v5 : Value) (v6 : Value) (v7 : Value) (v8 : Value) (v9 : Value) (v10 : Value) (v11 : Value) (v12 : Value) (v13 : Value) (v14 : Value) (f0 : Nat → Int64) (v15 : Value) (v16 : Value) (v17 : Value) (v18 : Value) (v19 : Value) (v20 : Value) (v21 : Value) (v22 : Value) (v23 : Value) (v24 : Value) (v25 : Value) (v26 : Value) (v27 : Value) (v28 : Value) (v29 : Value) (v30 : Value) (v31 : Value) (v32 : Value) (v33 : Value) (v34 : Value) (v35 : Value) (v36 : Value) (v37 : Value) (v38 : Value) (v39 : Value) (v40 : Value) (a0 : ClassId)  (e1 : xs 1 = 7) {H : Heap} {locs : List Loc} {ls : Array Slot} (hP : va_P D vwCl [(h0, .inr (5, [v0, .ref h1, v1, v2, v3, v4, v5, v6, v7, v8])), (h1, .inr (0, [v9, v10, v11, v12, v13, v14, .int 2])), (h2, .inl (a0, 1, .inr (.inl f0))), (h3, .inr (6, [v15, v16, v17, v18, v19, v20, v21, v22, .int 2, v23, v24, v25, v26, v27, v28, v29, v30, v31, v32, v33, v34, v35, v36, v37, v38, v39, v40]))] H) (hD : va_D A [(h0, .inr (5, [v0, .ref h1, v1, v2, v3, v4, v5, v6, v7, v8])), (h1, .inr (0, [v9, v10, v11, v12, v13, v14, .int 2])), (h2, .inl (a0, 1, .inr (.inl f0))), (h3, .inr (6, [v15, v16, v17, v18, v19, v20, v21, v22, .int 2, v23, v24, v25, v26, v27, v28, v29, v30, v31, v32, v33, v34, v35, v36, v37, v38, v39, v40]))]) (hK : va_K D vwCl [(a0, .long)] s) (hS : va_S A s.heap H locs) (hl : lv_has ls 9 [(4, .int 0), (3, .ref h2), (2, .ref h3), (1, .ref h0), (0, .ref b)]) (kk : ∀ (H : Heap) (locs : List Loc) (ls : Array Slot), va_S A s.heap H locs → lv_has ls 9 [(4, .int 0), (0, .ref b)] → W p l e room_1 s m #[Value.ref b] below meth c H locs 3000 30000 Q (F0 m 2199 ls [])) : W p l e room_1 s m #[Value.ref b] below meth c H locs 1010 8898 Q (F0 m 419 ls []) := by
  refine lv_aload_n hx hb dL_law_419 rfl (lv_at hl 3 rfl) ?_
  refine lv_aload_n hx hb dL_law_420 rfl (lv_at hl 4 rfl) ?_
  refine lv_iload hx hb dL_law_421 (lv_at hl 0 rfl) ?_
  refine lv_iconst (v := 1) hx hb dL_law_423 (by decide) ?_
  refine lv_iadd hx hb dL_law_424 ?_
  refine ti (1) (by decide) ?_
  refine va_sld hx hb hXs hbl hbA hS (vin (by decide)) dL_law_425 ?_
  refine ti 7 e1 ?_
  refine lv_aload_n hx hb dL_law_426 rfl (lv_at hl 1 rfl) ?_
  refine cHi (n := 3) (As := [.ref h0, .int 7, .ref h2]) (rest := []) (wr := [(h3, .inr (6, [v15, v16, v17, v18, v19, v20, v21, v22, .int 2, v23, v24, v25, v26, v27, v28, v29, v30, v31, v32, v33, v34, v35, v36, v37, v38, v39, v40]))]) (tr := []) hx hb hml hown hg okN (cL_count_613 l D h0 h2 h1 v0 v1 v2 v3 v4 v5 v6 v7 v8 f0 v9 v10 v11 v12 v13 v14 a0) (mwHS k834 k835 k83 k836) ⟨by decide, by decide, by decide +kernel⟩ ⟨rfl, rfl, (Nat.le_of_ble_eq_true rfl), (Nat.le_of_ble_eq_true rfl)⟩ hP hD hK hS xn [0, 2, 1] [0, 2, 1] [3] [0] [] rfl (by decide) rfl rfl (by decide) (by decide) rfl rfl (va_free hD hS hA [0, 2, 1] rfl) (va_free hD hS hA [0, 2, 1] rfl) rfl hl.1 rfl (Nat.le_of_ble_eq_true rfl) dL_law_427 ⟨(Nat.le_of_ble_eq_true rfl), (Nat.le_of_ble_eq_true rfl)⟩ (fun u H locs hφ hP hD hK hS hk => ?_)
  have hP : va_P D vwCl [(h3, .inr (6, [v15, v16, v17, v18, v19, v20, v21, v22, .int 2, v23, v24, v25, v26, v27, v28, v29, v30, v31, v32, v33, v34, v35, v36, v37, v38, v39, v40])), (h0, .inr (5, [v0, .ref h1, v1, v2, v3, v4, v5, v6, v7, v8])), (h2, .inl (a0, 1, .inr (.inl (vp_updL f0 0 2)))), (h1, .inr (0, [v9, v10, v11, v12, v13, v14, .int 2]))] H := hP
  have hD : va_D A [(h3, .inr (6, [v15, v16, v17, v18, v19, v20, v21, v22, .int 2, v23, v24, v25, v26, v27, v28, v29, v30, v31, v32, v33, v34, v35, v36, v37, v38, v39, v40])), (h0, .inr (5, [v0, .ref h1, v1, v2, v3, v4, v5, v6, v7, v8])), (h2, .inl (a0, 1, .inr (.inl (vp_updL f0 0 2)))), (h1, .inr (0, [v9, v10, v11, v12, v13, v14, .int 2]))] := hD
  have hK : va_K D vwCl [(a0, .long)] s := hK
  refine W.widen (k := 1010) (n := 8898) (Nat.le_of_ble_eq_true rfl) (Nat.le_of_ble_eq_true rfl) ?_
  refine lv_istore (lv' := [(5, .int 0), (4, .int 0), (3, .ref h2), (2, .ref h3), (1, .ref h0), (0, .ref b)]) hx hb dL_law_430 hl (by decide) rfl (fun ls hl => ?_)
  refine lv_aload_n hx hb dL_law_432 rfl (lv_at hl 3 rfl) ?_
  refine lv_aload_n hx hb dL_law_433 rfl (lv_at hl 5 rfl) ?_
  refine lv_iload hx hb dL_law_434 (lv_at hl 1 rfl) ?_
  refine lv_iconst (v := 1) hx hb dL_law_436 (by decide) ?_
  refine lv_iadd hx hb dL_law_437 ?_
  refine ti (1) (by decide) ?_
  refine va_sld hx hb hXs hbl hbA hS (vin (by decide)) dL_law_438 ?_
  refine ti 7 e1 ?_
  refine cVi (n := 1) (As := [.int 7]) (rest := []) (wr := [(h0, .inr (5, [v0, .ref h1, v1, v2, v3, v4, v5, v6, v7, v8])), (h2, .inl (a0, 1, .inr (.inl (vp_updL f0 0 2)))), (h1, .inr (0, [v9, v10, v11, v12, v13, v14, .int 2]))]) (tr := [(a0, .long)]) hx hb hml hown hg okN (cX6_count_47 l D h3 v15 v16 v17 v18 v19 v20 v21 v22 v23 v24 v25 v26 v27 v28 v29 v30 v31 v32 v33 v34 v35 v36 v37 v38 v39 v40) (mwV k1407 k1408 k1409 k92 k1410) ⟨rfl, by decide, by decide, by decide +kernel⟩ ⟨rfl, rfl, (Nat.le_of_ble_eq_true rfl), (Nat.le_of_ble_eq_true rfl)⟩ hP hD hK hS xn [0] [0] [1, 2, 3] [] [0] rfl (by decide) rfl rfl (by decide) (by decide) rfl rfl (va_free hD hS hA [0] rfl) (va_free hD hS hA [0] rfl) 0 rfl rfl rfl hl.1 rfl (Nat.le_of_ble_eq_true rfl) dL_law_439 ⟨(Nat.le_of_ble_eq_true rfl), (Nat.le_of_ble_eq_true rfl)⟩ (fun u H locs hφ hP hD hK hS hk => ?_)
  have hP : va_P D vwCl [(h0, .inr (5, [v0, .ref h1, v1, v2, v3, v4, v5, v6, v7, v8])), (h2, .inl (a0, 1, .inr (.inl (vp_updL f0 0 2)))), (h1, .inr (0, [v9, v10, v11, v12, v13, v14, .int 2])), (h3, .inr (6, [.int 0, v16, v17, v18, v19, v20, v21, v22, .int 2, v23, v24, v25, v26, v27, v28, v29, v30, v31, v32, v33, v34, v35, v36, v37, v38, v39, v40]))] H := hP
  have hD : va_D A [(h0, .inr (5, [v0, .ref h1, v1, v2, v3, v4, v5, v6, v7, v8])), (h2, .inl (a0, 1, .inr (.inl (vp_updL f0 0 2)))), (h1, .inr (0, [v9, v10, v11, v12, v13, v14, .int 2])), (h3, .inr (6, [.int 0, v16, v17, v18, v19, v20, v21, v22, .int 2, v23, v24, v25, v26, v27, v28, v29, v30, v31, v32, v33, v34, v35, v36, v37, v38, v39, v40]))] := hD
  have hK : va_K D vwCl [(a0, .long)] s := hK
  refine W.widen (k := 1010) (n := 8898) (Nat.le_of_ble_eq_true rfl) (Nat.le_of_ble_eq_true rfl) ?_
  refine lv_istore (lv' := [(6, .int 2), (5, .int 0), (4, .int 0), (3, .ref h2), (2, .ref h3), (1, .ref h0), (0, .ref b)]) hx hb dL_law_442 hl (by decide) rfl (fun ls hl => ?_)
  refine lv_aload_n hx hb dL_law_444 rfl (lv_at hl 4 rfl) ?_
  refine cVi (n := 0) (As := []) (rest := []) (wr := [(h0, .inr (5, [v0, .ref h1, v1, v2, v3, v4, v5, v6, v7, v8])), (h2, .inl (a0, 1, .inr (.inl (vp_updL f0 0 2)))), (h1, .inr (0, [v9, v10, v11, v12, v13, v14, .int 2])), (h3, .inr (6, [.int 0, v16, v17, v18, v19, v20, v21, v22, .int 2, v23, v24, v25, v26, v27, v28, v29, v30, v31, v32, v33, v34, v35, v36, v37, v38, v39, v40]))]) (tr := [(a0, .long)]) hx hb hml hown hg okN (cX6_thrown_1 l D h3 v16 v17 v18 v19 v20 v21 v22 (.int 2) v23 v24 v25 v26 v27 v28 v29 v30 v31 v32 v33 v34 v35 v36 v37 v38 v39 v40) (mwV k1301 k1302 k1303 k92 k1304) ⟨rfl, by decide, by decide, by decide +kernel⟩ ⟨rfl, rfl, (Nat.le_of_ble_eq_true rfl), (Nat.le_of_ble_eq_true rfl)⟩ hP hD hK hS xn [3] [] [0, 1, 2, 3] [] [0] rfl (by decide) rfl rfl (by decide) (by decide) rfl rfl (aNil hA hS) (aNil hA hS) 3 rfl rfl rfl hl.1 rfl (Nat.le_of_ble_eq_true rfl) dL_law_445 ⟨(Nat.le_of_ble_eq_true rfl), (Nat.le_of_ble_eq_true rfl)⟩ (fun u H locs hφ hP hD hK hS hk => ?_)
  have hP : va_P D vwCl [(h0, .inr (5, [v0, .ref h1, v1, v2, v3, v4, v5, v6, v7, v8])), (h2, .inl (a0, 1, .inr (.inl (vp_updL f0 0 2)))), (h1, .inr (0, [v9, v10, v11, v12, v13, v14, .int 2])), (h3, .inr (6, [.int 0, v16, v17, v18, v19, v20, v21, v22, .int 2, v23, v24, v25, v26, v27, v28, v29, v30, v31, v32, v33, v34, v35, v36, v37, v38, v39, v40]))] H := hP
  have hD : va_D A [(h0, .inr (5, [v0, .ref h1, v1, v2, v3, v4, v5, v6, v7, v8])), (h2, .inl (a0, 1, .inr (.inl (vp_updL f0 0 2)))), (h1, .inr (0, [v9, v10, v11, v12, v13, v14, .int 2])), (h3, .inr (6, [.int 0, v16, v17, v18, v19, v20, v21, v22, .int 2, v23, v24, v25, v26, v27, v28, v29, v30, v31, v32, v33, v34, v35, v36, v37, v38, v39, v40]))] := hD
  have hK : va_K D vwCl [(a0, .long)] s := hK
  refine W.widen (k := 1010) (n := 8898) (Nat.le_of_ble_eq_true rfl) (Nat.le_of_ble_eq_true rfl) ?_
  refine lv_iload hx hb dL_law_448 (lv_at hl 1 rfl) ?_
  refine lv_icmp_eq (tgt := 455) hx hb dL_law_450 (by decide) (fun _ => ?_) (fun c9 => absurd (by decide) c9)
  refine lv_iload hx hb dL_law_455 (lv_at hl 1 rfl) ?_
  refine lv_if_ne (tgt := 472) hx hb dL_law_457 (by decide) (fun c9 => absurd (by decide) c9) (fun _ => ?_)
  refine lv_aload_n hx hb dL_law_460 rfl (lv_at hl 3 rfl) ?_
  refine lv_iconst (v := 0) hx hb dL_law_461 (by decide) ?_
  refine aldL hx hb hK hP 1 0 rfl rfl 0 (by decide) (vin (by decide)) (v := 2) rfl dL_law_462 ?_
  refine lv_iload hx hb dL_law_463 (lv_at hl 0 rfl) ?_
  refine lv_i2l (v := 2) hx hb dL_law_465 (by decide) ?_
  refine W.lcmp hx hb dL_law_466 ?_
  refine ti (0) (by decide) ?_
  refine lv_if_eq (tgt := 472) hx hb dL_law_467 (by decide) (fun _ => ?_) (fun c9 => absurd (by decide) c9)
  refine lv_goto (tgt := 2199) hx hb dL_law_472 (by decide) ?_
  refine W.widen (k := 3000) (n := 30000) (Nat.le_of_ble_eq_true rfl) (Nat.le_of_ble_eq_true rfl) ?_
  exact kk _ _ _ hS (lv_sub hl [2, 6] rfl)
set_option maxHeartbeats 4000000 in
set_option maxRecDepth 100000 in
theorem law_5_9 {p : Program} {e : Env} {s : State} {m : MethodId} {below : List Frame} {meth : Method} {c : Code} (l : Launch) (hlt : l.stackTraces = false) {b : Nat} {xs : Nat → Int32} (hx : p.tables.exec = Jvm.exec) (hb : c.code = cL_law) (hml : c.maxLocals = 9) (hown : s.vm.findClass RL = some m.cls) (hg : ∀ w ∈ GW, w.before #[Value.ref b] s = true) (hXs : va_X b 6 xs s s.heap) (hbl : b < s.heap.size) (D : va_G) {A : Nat → Prop} (hA : ∀ q, s.heap.size ≤ q → A q) (hbA : ¬ A b) (hX : XX A s s.heap) (Q : State → Prop) (h0 : Nat) (h1 : Nat) (h2 : Nat) (h3 : Nat) (h4 : Nat) (h5 : Nat) (h6 : Nat) (h7 : Nat) (v0 : Value) (v1 : Value) (v2 : Value) (v3 : Value) (v4 : Value) (v5 : Value) (v6 : Value) (v7 : Value) (v8 : Value) (v9 : Value) (v10 : Value) (v11 : Value) (v12 : Value) (v13 : Value) (v14 : Value) (v15 : Value) (v16 : Value) (v17 : Value) (v18 : Value) (v19 : Value) (v20 : Value) (v21 : Value) (v22 : Value) (v23 : Value) (v24 : Value) (f0 : Nat → Int32) (f1 : Nat → Int64) (f2 : Nat → Int64) (v25 : Value) (v26 : Value) (v27 : Value) (v28 : Value) (v29 : Value) (v30 : Value) (v31 : Value) (v32 : Value) (v33 : Value) (v34 : Value) (v35 : Value) (v36 : Value) (v37 : Value) (v38 : Value) (v39 : Value) (v40 : Value) (v41 : Value) (v42 : Value) (v43 : Value) (v44 : Value) (v45 : Value) (v46 : Value) (v47 : Value) (v48 : Value) (v49 : Value) (f3 : Nat → Int64) (a0 : ClassId) (a1 : ClassId) (a2 : ClassId) (a3 : ClassId) (ef0_0 : f0 0 = (-1)) (ef0_1 : f0 1 = (-1)) (ef1_0 : f1 0 = 1) (ef1_1 : f1 1 = 1) (ef3_53 : f3 53 = 1) (ef3_54 : f3 54 = 1) (ef3_101 : f3 101 = (-1)) (ef3_102 : f3 102 = (-1)) (e1 : xs 1 = 8) {H : Heap} {locs : List Loc} {ls : Array Slot} (hP : va_P D vwCl [(h0, .inr (5, [v0, v1, v2, .ref h1, v3, v4, v5, v6, v7, v8])), (h1, .inr (1, [.ref h2, v9, .ref h4, .ref h3, v10, v11, v12, v13, v14, v15, v16, v17, v18])), (h2, .inr (0, [v19, v20, .int 2, v21, v22, v23, v24])), (h3, .inl (a0, 48, .inl f0)), (h4, .inl (a1, 48, .inr (.inl f1))), (h5, .inl (a2, 1, .inr (.inl f2))), (h6, .inr (6, [v25, .ref h7, v26, v27, v28, v29, v30, .int 2, v31, v32, v33, v34, v35, v36, v37, v38, v39, v40, v41, v42, v43, v44, v45, v46, v47, v48, v49])), (h7, .inl (a3, 609, .inr (.inl f3)))] H) (hD : va_D A [(h0, .inr (5, [v0, v1, v2, .ref h1, v3, v4, v5, v6, v7, v8])), (h1, .inr (1, [.ref h2, v9, .ref h4, .ref h3, v10, v11, v12, v13, v14, v15, v16, v17, v18])), (h2, .inr (0, [v19, v20, .int 2, v21, v22, v23, v24])), (h3, .inl (a0, 48, .inl f0)), (h4, .inl (a1, 48, .inr (.inl f1))), (h5, .inl (a2, 1, .inr (.inl f2))), (h6, .inr (6, [v25, .ref h7, v26, v27, v28, v29, v30, .int 2, v31, v32, v33, v34, v35, v36, v37, v38, v39, v40, v41, v42, v43, v44, v45, v46, v47, v48, v49])), (h7, .inl (a3, 609, .inr (.inl f3)))]) (hK : va_K D vwCl [(a0, .int), (a1, .long), (a2, .long), (a3, .long)] s) (hS : va_S A s.heap H locs) (hl : lv_has ls 9 [(4, .int 0), (3, .ref h5), (2, .ref h6), (1, .ref h0), (0, .ref b)]) (kk : ∀ (H : Heap) (locs : List Loc) (ls : Array Slot), va_S A s.heap H locs → lv_has ls 9 [(4, .int 0), (0, .ref b)] → W p l e room_1 s m #[Value.ref b] below meth c H locs 3000 30000 Q (F0 m 2199 ls [])) : W p l e room_1 s m #[Value.ref b] below meth c H locs 1010 8898 Q (F0 m 419 ls []) := by
  refine lv_aload_n hx hb dL_law_419 rfl (lv_at hl 3 rfl) ?_
  refine lv_aload_n hx hb dL_law_420 rfl (lv_at hl 4 rfl) ?_
  refine lv_iload hx hb dL_law_421 (lv_at hl 0 rfl) ?_
  refine lv_iconst (v := 1) hx hb dL_law_423 (by decide) ?_
  refine lv_iadd hx hb dL_law_424 ?_
  refine ti (1) (by decide) ?_
  refine va_sld hx hb hXs hbl hbA hS (vin (by decide)) dL_law_425 ?_
  refine ti 8 e1 ?_
  refine lv_aload_n hx hb dL_law_426 rfl (lv_at hl 1 rfl) ?_
  refine cHi (n := 3) (As := [.ref h0, .int 8, .ref h5]) (rest := []) (wr := [(h6, .inr (6, [v25, .ref h7, v26, v27, v28, v29, v30, .int 2, v31, v32, v33, v34, v35, v36, v37, v38, v39, v40, v41, v42, v43, v44, v45, v46, v47, v48, v49])), (h7, .inl (a3, 609, .inr (.inl f3)))]) (tr := [(a3, .long)]) hx hb hml hown hg okN (cL_count_614 l D h0 h5 h1 h2 h3 h4 v0 v1 v2 v3 v4 v5 v6 v7 v8 f2 v9 v10 v11 v12 v13 v14 v15 v16 v17 v18 v19 v20 v21 v22 v23 v24 f0 f1 a2 a0 a1 ef0_0 ef0_1 ef1_0 ef1_1) (mwHS k834 k835 k83 k836) ⟨by decide, by decide, by decide +kernel⟩ ⟨rfl, rfl, (Nat.le_of_ble_eq_true rfl), (Nat.le_of_ble_eq_true rfl)⟩ hP hD hK hS xn [0, 5, 1, 2, 3, 4] [0, 5, 1, 2, 3, 4] [6, 7] [2, 0, 1] [3] rfl (by decide) rfl rfl (by decide) (by decide) rfl rfl (va_free hD hS hA [0, 5, 1, 2, 3, 4] rfl) (va_free hD hS hA [0, 5, 1, 2, 3, 4] rfl) rfl hl.1 rfl (Nat.le_of_ble_eq_true rfl) dL_law_427 ⟨(Nat.le_of_ble_eq_true rfl), (Nat.le_of_ble_eq_true rfl)⟩ (fun u H locs hφ hP hD hK hS hk => ?_)
  have hP : va_P D vwCl [(h6, .inr (6, [v25, .ref h7, v26, v27, v28, v29, v30, .int 2, v31, v32, v33, v34, v35, v36, v37, v38, v39, v40, v41, v42, v43, v44, v45, v46, v47, v48, v49])), (h7, .inl (a3, 609, .inr (.inl f3))), (h0, .inr (5, [v0, v1, v2, .ref h1, v3, v4, v5, v6, v7, v8])), (h5, .inl (a2, 1, .inr (.inl (vp_updL f2 0 2)))), (h1, .inr (1, [.ref h2, v9, .ref h4, .ref h3, v10, v11, v12, v13, v14, v15, v16, v17, v18])), (h2, .inr (0, [v19, v20, .int 2, v21, v22, v23, v24])), (h3, .inl (a0, 48, .inl f0)), (h4, .inl (a1, 48, .inr (.inl f1)))] H := hP
  have hD : va_D A [(h6, .inr (6, [v25, .ref h7, v26, v27, v28, v29, v30, .int 2, v31, v32, v33, v34, v35, v36, v37, v38, v39, v40, v41, v42, v43, v44, v45, v46, v47, v48, v49])), (h7, .inl (a3, 609, .inr (.inl f3))), (h0, .inr (5, [v0, v1, v2, .ref h1, v3, v4, v5, v6, v7, v8])), (h5, .inl (a2, 1, .inr (.inl (vp_updL f2 0 2)))), (h1, .inr (1, [.ref h2, v9, .ref h4, .ref h3, v10, v11, v12, v13, v14, v15, v16, v17, v18])), (h2, .inr (0, [v19, v20, .int 2, v21, v22, v23, v24])), (h3, .inl (a0, 48, .inl f0)), (h4, .inl (a1, 48, .inr (.inl f1)))] := hD
  have hK : va_K D vwCl [(a3, .long), (a2, .long), (a0, .int), (a1, .long)] s := hK
  refine W.widen (k := 1010) (n := 8898) (Nat.le_of_ble_eq_true rfl) (Nat.le_of_ble_eq_true rfl) ?_
  refine lv_istore (lv' := [(5, .int 0), (4, .int 0), (3, .ref h5), (2, .ref h6), (1, .ref h0), (0, .ref b)]) hx hb dL_law_430 hl (by decide) rfl (fun ls hl => ?_)
  refine lv_aload_n hx hb dL_law_432 rfl (lv_at hl 3 rfl) ?_
  refine lv_aload_n hx hb dL_law_433 rfl (lv_at hl 5 rfl) ?_
  refine lv_iload hx hb dL_law_434 (lv_at hl 1 rfl) ?_
  refine lv_iconst (v := 1) hx hb dL_law_436 (by decide) ?_
  refine lv_iadd hx hb dL_law_437 ?_
  refine ti (1) (by decide) ?_
  refine va_sld hx hb hXs hbl hbA hS (vin (by decide)) dL_law_438 ?_
  refine ti 8 e1 ?_
  refine cVi (n := 1) (As := [.int 8]) (rest := []) (wr := [(h0, .inr (5, [v0, v1, v2, .ref h1, v3, v4, v5, v6, v7, v8])), (h5, .inl (a2, 1, .inr (.inl (vp_updL f2 0 2)))), (h1, .inr (1, [.ref h2, v9, .ref h4, .ref h3, v10, v11, v12, v13, v14, v15, v16, v17, v18])), (h2, .inr (0, [v19, v20, .int 2, v21, v22, v23, v24])), (h3, .inl (a0, 48, .inl f0)), (h4, .inl (a1, 48, .inr (.inl f1)))]) (tr := [(a2, .long), (a0, .int), (a1, .long)]) hx hb hml hown hg okN (cX6_count_49 l D h6 h7 v25 v26 v27 v28 v29 v30 v31 v32 v33 v34 v35 v36 v37 v38 v39 v40 v41 v42 v43 v44 v45 v46 v47 v48 v49 f3 a3 ef3_53 ef3_54 ef3_101 ef3_102) (mwV k1407 k1408 k1409 k92 k1410) ⟨rfl, by decide, by decide, by decide +kernel⟩ ⟨rfl, rfl, (Nat.le_of_ble_eq_true rfl), (Nat.le_of_ble_eq_true rfl)⟩ hP hD hK hS xn [0, 1] [0, 1] [2, 3, 4, 5, 6, 7] [0] [1, 2, 3] rfl (by decide) rfl rfl (by decide) (by decide) rfl rfl (va_free hD hS hA [0, 1] rfl) (va_free hD hS hA [0, 1] rfl) 0 rfl rfl rfl hl.1 rfl (Nat.le_of_ble_eq_true rfl) dL_law_439 ⟨(Nat.le_of_ble_eq_true rfl), (Nat.le_of_ble_eq_true rfl)⟩ (fun u H locs hφ hP hD hK hS hk => ?_)
  have hP : va_P D vwCl [(h0, .inr (5, [v0, v1, v2, .ref h1, v3, v4, v5, v6, v7, v8])), (h5, .inl (a2, 1, .inr (.inl (vp_updL f2 0 2)))), (h1, .inr (1, [.ref h2, v9, .ref h4, .ref h3, v10, v11, v12, v13, v14, v15, v16, v17, v18])), (h2, .inr (0, [v19, v20, .int 2, v21, v22, v23, v24])), (h3, .inl (a0, 48, .inl f0)), (h4, .inl (a1, 48, .inr (.inl f1))), (h6, .inr (6, [.int 0, .ref h7, v26, v27, v28, v29, v30, .int 2, v31, v32, v33, v34, v35, v36, v37, v38, v39, v40, v41, v42, v43, v44, v45, v46, v47, v48, v49])), (h7, .inl (a3, 609, .inr (.inl f3)))] H := hP
  have hD : va_D A [(h0, .inr (5, [v0, v1, v2, .ref h1, v3, v4, v5, v6, v7, v8])), (h5, .inl (a2, 1, .inr (.inl (vp_updL f2 0 2)))), (h1, .inr (1, [.ref h2, v9, .ref h4, .ref h3, v10, v11, v12, v13, v14, v15, v16, v17, v18])), (h2, .inr (0, [v19, v20, .int 2, v21, v22, v23, v24])), (h3, .inl (a0, 48, .inl f0)), (h4, .inl (a1, 48, .inr (.inl f1))), (h6, .inr (6, [.int 0, .ref h7, v26, v27, v28, v29, v30, .int 2, v31, v32, v33, v34, v35, v36, v37, v38, v39, v40, v41, v42, v43, v44, v45, v46, v47, v48, v49])), (h7, .inl (a3, 609, .inr (.inl f3)))] := hD
  have hK : va_K D vwCl [(a2, .long), (a0, .int), (a1, .long), (a3, .long)] s := hK
  refine W.widen (k := 1010) (n := 8898) (Nat.le_of_ble_eq_true rfl) (Nat.le_of_ble_eq_true rfl) ?_
  refine lv_istore (lv' := [(6, .int 2), (5, .int 0), (4, .int 0), (3, .ref h5), (2, .ref h6), (1, .ref h0), (0, .ref b)]) hx hb dL_law_442 hl (by decide) rfl (fun ls hl => ?_)
  refine lv_aload_n hx hb dL_law_444 rfl (lv_at hl 4 rfl) ?_
  refine cVi (n := 0) (As := []) (rest := []) (wr := [(h0, .inr (5, [v0, v1, v2, .ref h1, v3, v4, v5, v6, v7, v8])), (h5, .inl (a2, 1, .inr (.inl (vp_updL f2 0 2)))), (h1, .inr (1, [.ref h2, v9, .ref h4, .ref h3, v10, v11, v12, v13, v14, v15, v16, v17, v18])), (h2, .inr (0, [v19, v20, .int 2, v21, v22, v23, v24])), (h3, .inl (a0, 48, .inl f0)), (h4, .inl (a1, 48, .inr (.inl f1))), (h6, .inr (6, [.int 0, .ref h7, v26, v27, v28, v29, v30, .int 2, v31, v32, v33, v34, v35, v36, v37, v38, v39, v40, v41, v42, v43, v44, v45, v46, v47, v48, v49])), (h7, .inl (a3, 609, .inr (.inl f3)))]) (tr := [(a2, .long), (a0, .int), (a1, .long), (a3, .long)]) hx hb hml hown hg okN (cX6_thrown_1 l D h6 (.ref h7) v26 v27 v28 v29 v30 (.int 2) v31 v32 v33 v34 v35 v36 v37 v38 v39 v40 v41 v42 v43 v44 v45 v46 v47 v48 v49) (mwV k1301 k1302 k1303 k92 k1304) ⟨rfl, by decide, by decide, by decide +kernel⟩ ⟨rfl, rfl, (Nat.le_of_ble_eq_true rfl), (Nat.le_of_ble_eq_true rfl)⟩ hP hD hK hS xn [6] [] [0, 1, 2, 3, 4, 5, 6, 7] [] [0, 1, 2, 3] rfl (by decide) rfl rfl (by decide) (by decide) rfl rfl (aNil hA hS) (aNil hA hS) 6 rfl rfl rfl hl.1 rfl (Nat.le_of_ble_eq_true rfl) dL_law_445 ⟨(Nat.le_of_ble_eq_true rfl), (Nat.le_of_ble_eq_true rfl)⟩ (fun u H locs hφ hP hD hK hS hk => ?_)
  have hP : va_P D vwCl [(h0, .inr (5, [v0, v1, v2, .ref h1, v3, v4, v5, v6, v7, v8])), (h5, .inl (a2, 1, .inr (.inl (vp_updL f2 0 2)))), (h1, .inr (1, [.ref h2, v9, .ref h4, .ref h3, v10, v11, v12, v13, v14, v15, v16, v17, v18])), (h2, .inr (0, [v19, v20, .int 2, v21, v22, v23, v24])), (h3, .inl (a0, 48, .inl f0)), (h4, .inl (a1, 48, .inr (.inl f1))), (h6, .inr (6, [.int 0, .ref h7, v26, v27, v28, v29, v30, .int 2, v31, v32, v33, v34, v35, v36, v37, v38, v39, v40, v41, v42, v43, v44, v45, v46, v47, v48, v49])), (h7, .inl (a3, 609, .inr (.inl f3)))] H := hP
  have hD : va_D A [(h0, .inr (5, [v0, v1, v2, .ref h1, v3, v4, v5, v6, v7, v8])), (h5, .inl (a2, 1, .inr (.inl (vp_updL f2 0 2)))), (h1, .inr (1, [.ref h2, v9, .ref h4, .ref h3, v10, v11, v12, v13, v14, v15, v16, v17, v18])), (h2, .inr (0, [v19, v20, .int 2, v21, v22, v23, v24])), (h3, .inl (a0, 48, .inl f0)), (h4, .inl (a1, 48, .inr (.inl f1))), (h6, .inr (6, [.int 0, .ref h7, v26, v27, v28, v29, v30, .int 2, v31, v32, v33, v34, v35, v36, v37, v38, v39, v40, v41, v42, v43, v44, v45, v46, v47, v48, v49])), (h7, .inl (a3, 609, .inr (.inl f3)))] := hD
  have hK : va_K D vwCl [(a2, .long), (a0, .int), (a1, .long), (a3, .long)] s := hK
  refine W.widen (k := 1010) (n := 8898) (Nat.le_of_ble_eq_true rfl) (Nat.le_of_ble_eq_true rfl) ?_
  refine lv_iload hx hb dL_law_448 (lv_at hl 1 rfl) ?_
  refine lv_icmp_eq (tgt := 455) hx hb dL_law_450 (by decide) (fun _ => ?_) (fun c9 => absurd (by decide) c9)
  refine lv_iload hx hb dL_law_455 (lv_at hl 1 rfl) ?_
  refine lv_if_ne (tgt := 472) hx hb dL_law_457 (by decide) (fun c9 => absurd (by decide) c9) (fun _ => ?_)
  refine lv_aload_n hx hb dL_law_460 rfl (lv_at hl 3 rfl) ?_
  refine lv_iconst (v := 0) hx hb dL_law_461 (by decide) ?_
  refine aldL hx hb hK hP 1 0 rfl rfl 0 (by decide) (vin (by decide)) (v := 2) rfl dL_law_462 ?_
  refine lv_iload hx hb dL_law_463 (lv_at hl 0 rfl) ?_
  refine lv_i2l (v := 2) hx hb dL_law_465 (by decide) ?_
  refine W.lcmp hx hb dL_law_466 ?_
  refine ti (0) (by decide) ?_
  refine lv_if_eq (tgt := 472) hx hb dL_law_467 (by decide) (fun _ => ?_) (fun c9 => absurd (by decide) c9)
  refine lv_goto (tgt := 2199) hx hb dL_law_472 (by decide) ?_
  refine W.widen (k := 3000) (n := 30000) (Nat.le_of_ble_eq_true rfl) (Nat.le_of_ble_eq_true rfl) ?_
  exact kk _ _ _ hS (lv_sub hl [2, 6] rfl)
set_option maxHeartbeats 4000000 in
set_option maxRecDepth 100000 in
theorem law_5_10 {p : Program} {e : Env} {s : State} {m : MethodId} {below : List Frame} {meth : Method} {c : Code} (l : Launch) (hlt : l.stackTraces = false) {b : Nat} {xs : Nat → Int32} (hx : p.tables.exec = Jvm.exec) (hb : c.code = cL_law) (hml : c.maxLocals = 9) (hown : s.vm.findClass RL = some m.cls) (hg : ∀ w ∈ GW, w.before #[Value.ref b] s = true) (hXs : va_X b 6 xs s s.heap) (hbl : b < s.heap.size) (D : va_G) {A : Nat → Prop} (hA : ∀ q, s.heap.size ≤ q → A q) (hbA : ¬ A b) (hX : XX A s s.heap) (Q : State → Prop) (h0 : Nat) (h1 : Nat) (h2 : Nat) (v0 : Value) (v1 : Value) (v2 : Value) (v3 : Value) (v4 : Value) (v5 : Value) (v6 : Value) (v7 : Value) (v8 : Value) (v9 : Value) (v10 : Value) (v11 : Value) (v12 : Value) (v13 : Value) (v14 : Value) (v15 : Value) (v16 : Value) (v17 : Value) (v18 : Value) (v19 : Value) (v20 : Value) (v21 : Value) (v22 : Value) (v23 : Value) (v24 : Value) (v25 : Value) (v26 : Value) (v27 : Value) (v28 : Value) (v29 : Value) (v30 : Value) (v31 : Value) (v32 : Value) (v33 : Value) (v34 : Value) (v35 : Value) (v36 : Value)  (p1 : Int32) (e1 : xs 1 = p1) (bl1 : 9 ≤ p1.toInt) (bh1 : p1.toInt ≤ 2147483647) {H : Heap} {locs : List Loc} {ls : Array Slot} (hP : va_P D vwCl [(h0, .inr (5, [v0, v1, v2, v3, v4, v5, v6, v7, v8, v9])), (h1, .inr (6, [v10, v11, v12, v13, v14, v15, v16, v17, v18, v19, v20, v21, v22, v23, v24, v25, v26, v27, v28, v29, v30, v31, v32, v33, v34, v35, v36]))] H) (hD : va_D A [(h0, .inr (5, [v0, v1, v2, v3, v4, v5, v6, v7, v8, v9])), (h1, .inr (6, [v10, v11, v12, v13, v14, v15, v16, v17, v18, v19, v20, v21, v22, v23, v24, v25, v26, v27, v28, v29, v30, v31, v32, v33, v34, v35, v36]))]) (hK : va_K D vwCl [] s) (hS : va_S A s.heap H locs) (hl : lv_has ls 9 [(4, .int 0), (3, .ref h2), (2, .ref h1), (1, .ref h0), (0, .ref b)]) (kk : ∀ (H : Heap) (locs : List Loc) (ls : Array Slot), va_S A s.heap H locs → lv_has ls 9 [(4, .int 0), (0, .ref b)] → W p l e room_1 s m #[Value.ref b] below meth c H locs 3000 30000 Q (F0 m 2199 ls [])) : W p l e room_1 s m #[Value.ref b] below meth c H locs 1010 8898 Q (F0 m 419 ls []) := by
  have d0 : p1.toInt < 0 ∨ 8 < p1.toInt := (by omega)
  have d1 : ¬ ((lg_cmp p1.toInt64 0) < 0) := lgq3 (by have h0 : (0 : Int64).toInt = 0 := (by decide); have hp1 := i2lI p1; omega)
  have d2 : 0 < (lg_cmp p1.toInt64 8) := lgq5 (by have h8 : (8 : Int64).toInt = 8 := (by decide); have hp1 := i2lI p1; omega)
  refine lv_aload_n hx hb dL_law_419 rfl (lv_at hl 3 rfl) ?_
  refine lv_aload_n hx hb dL_law_420 rfl (lv_at hl 4 rfl) ?_
  refine lv_iload hx hb dL_law_421 (lv_at hl 0 rfl) ?_
  refine lv_iconst (v := 1) hx hb dL_law_423 (by decide) ?_
  refine lv_iadd hx hb dL_law_424 ?_
  refine ti (1) (by decide) ?_
  refine va_sld hx hb hXs hbl hbA hS (vin (by decide)) dL_law_425 ?_
  refine ti p1 e1 ?_
  refine lv_aload_n hx hb dL_law_426 rfl (lv_at hl 1 rfl) ?_
  refine cHi (n := 3) (As := [.ref h0, .int p1, .ref h2]) (rest := []) (wr := [(h0, .inr (5, [v0, v1, v2, v3, v4, v5, v6, v7, v8, v9])), (h1, .inr (6, [v10, v11, v12, v13, v14, v15, v16, v17, v18, v19, v20, v21, v22, v23, v24, v25, v26, v27, v28, v29, v30, v31, v32, v33, v34, v35, v36]))]) (tr := []) hx hb hml hown hg okXX (cL_count_605 l D hlt h0 p1 h2 v0 v1 v2 v3 v4 v5 v6 v7 v8 v9 d0) (mwHS k834 k835 k83 k836) ⟨by decide, by decide, by decide +kernel⟩ ⟨rfl, rfl, (Nat.le_of_ble_eq_true rfl), (Nat.le_of_ble_eq_true rfl)⟩ hP hD hK hS (okXX.2.2 _ _ _ _ hS.2.1 hX) [0] [] [0, 1] [] [] rfl (by decide) rfl rfl (by decide) (by decide) rfl rfl (aNil hA hS) (aNil hA hS) rfl hl.1 rfl (Nat.le_of_ble_eq_true rfl) dL_law_427 ⟨(Nat.le_of_ble_eq_true rfl), (Nat.le_of_ble_eq_true rfl)⟩ (fun u H locs hφ hP hD hK hS hk => ?_)
  have hP : va_P D vwCl [(h0, .inr (5, [v0, v1, v2, v3, v4, v5, v6, v7, v8, v9])), (h1, .inr (6, [v10, v11, v12, v13, v14, v15, v16, v17, v18, v19, v20, v21, v22, v23, v24, v25, v26, v27, v28, v29, v30, v31, v32, v33, v34, v35, v36]))] H := hP
  have hD : va_D A [(h0, .inr (5, [v0, v1, v2, v3, v4, v5, v6, v7, v8, v9])), (h1, .inr (6, [v10, v11, v12, v13, v14, v15, v16, v17, v18, v19, v20, v21, v22, v23, v24, v25, v26, v27, v28, v29, v30, v31, v32, v33, v34, v35, v36]))] := hD
  have hK : va_K D vwCl [] s := hK
  refine W.widen (k := 1011) (n := 8904) (Nat.le_of_ble_eq_true rfl) (Nat.le_of_ble_eq_true rfl) ?_
  refine lv_istore (lv' := [(5, .int 1), (4, .int 0), (3, .ref h2), (2, .ref h1), (1, .ref h0), (0, .ref b)]) hx hb dL_law_430 hl (by decide) rfl (fun ls hl => ?_)
  refine lv_aload_n hx hb dL_law_432 rfl (lv_at hl 3 rfl) ?_
  refine lv_aload_n hx hb dL_law_433 rfl (lv_at hl 5 rfl) ?_
  refine lv_iload hx hb dL_law_434 (lv_at hl 1 rfl) ?_
  refine lv_iconst (v := 1) hx hb dL_law_436 (by decide) ?_
  refine lv_iadd hx hb dL_law_437 ?_
  refine ti (1) (by decide) ?_
  refine va_sld hx hb hXs hbl hbA hS (vin (by decide)) dL_law_438 ?_
  refine ti p1 e1 ?_
  refine cVi (n := 1) (As := [.int p1]) (rest := []) (wr := [(h0, .inr (5, [v0, v1, v2, v3, v4, v5, v6, v7, v8, v9]))]) (tr := []) hx hb hml hown hg okN (cX6_count_54 l D h1 p1 v10 v11 v12 v13 v14 v15 v16 v17 v18 v19 v20 v21 v22 v23 v24 v25 v26 v27 v28 v29 v30 v31 v32 v33 v34 v35 v36 d1 d2) (mwV k1407 k1408 k1409 k92 k1410) ⟨rfl, by decide, by decide, by decide +kernel⟩ ⟨rfl, rfl, (Nat.le_of_ble_eq_true rfl), (Nat.le_of_ble_eq_true rfl)⟩ hP hD hK hS xn [1] [1] [0] [] [] rfl (by decide) rfl rfl (by decide) (by decide) rfl rfl (va_free hD hS hA [1] rfl) (va_free hD hS hA [1] rfl) 1 rfl rfl rfl hl.1 rfl (Nat.le_of_ble_eq_true rfl) dL_law_439 ⟨(Nat.le_of_ble_eq_true rfl), (Nat.le_of_ble_eq_true rfl)⟩ (fun u H locs hφ hP hD hK hS hk => ?_)
  have hP : va_P D vwCl [(h0, .inr (5, [v0, v1, v2, v3, v4, v5, v6, v7, v8, v9])), (h1, .inr (6, [.int 1, v11, v12, v13, v14, v15, v16, v17, v18, v19, v20, v21, v22, v23, v24, v25, v26, v27, v28, v29, v30, v31, v32, v33, v34, v35, v36]))] H := hP
  have hD : va_D A [(h0, .inr (5, [v0, v1, v2, v3, v4, v5, v6, v7, v8, v9])), (h1, .inr (6, [.int 1, v11, v12, v13, v14, v15, v16, v17, v18, v19, v20, v21, v22, v23, v24, v25, v26, v27, v28, v29, v30, v31, v32, v33, v34, v35, v36]))] := hD
  have hK : va_K D vwCl [] s := hK
  refine W.widen (k := 1011) (n := 8904) (Nat.le_of_ble_eq_true rfl) (Nat.le_of_ble_eq_true rfl) ?_
  refine lv_istore (lv' := [(6, .int 0), (5, .int 1), (4, .int 0), (3, .ref h2), (2, .ref h1), (1, .ref h0), (0, .ref b)]) hx hb dL_law_442 hl (by decide) rfl (fun ls hl => ?_)
  refine lv_aload_n hx hb dL_law_444 rfl (lv_at hl 4 rfl) ?_
  refine cVi (n := 0) (As := []) (rest := []) (wr := [(h0, .inr (5, [v0, v1, v2, v3, v4, v5, v6, v7, v8, v9])), (h1, .inr (6, [.int 1, v11, v12, v13, v14, v15, v16, v17, v18, v19, v20, v21, v22, v23, v24, v25, v26, v27, v28, v29, v30, v31, v32, v33, v34, v35, v36]))]) (tr := []) hx hb hml hown hg okN (cX6_thrown_601 l D h1 v11 v12 v13 v14 v15 v16 v17 v18 v19 v20 v21 v22 v23 v24 v25 v26 v27 v28 v29 v30 v31 v32 v33 v34 v35 v36) (mwV k1301 k1302 k1303 k92 k1304) ⟨rfl, by decide, by decide, by decide +kernel⟩ ⟨rfl, rfl, (Nat.le_of_ble_eq_true rfl), (Nat.le_of_ble_eq_true rfl)⟩ hP hD hK hS xn [1] [] [0, 1] [] [] rfl (by decide) rfl rfl (by decide) (by decide) rfl rfl (aNil hA hS) (aNil hA hS) 1 rfl rfl rfl hl.1 rfl (Nat.le_of_ble_eq_true rfl) dL_law_445 ⟨(Nat.le_of_ble_eq_true rfl), (Nat.le_of_ble_eq_true rfl)⟩ (fun u H locs hφ hP hD hK hS hk => ?_)
  have hP : va_P D vwCl [(h0, .inr (5, [v0, v1, v2, v3, v4, v5, v6, v7, v8, v9])), (h1, .inr (6, [.int 1, v11, v12, v13, v14, v15, v16, v17, v18, v19, v20, v21, v22, v23, v24, v25, v26, v27, v28, v29, v30, v31, v32, v33, v34, v35, v36]))] H := hP
  have hD : va_D A [(h0, .inr (5, [v0, v1, v2, v3, v4, v5, v6, v7, v8, v9])), (h1, .inr (6, [.int 1, v11, v12, v13, v14, v15, v16, v17, v18, v19, v20, v21, v22, v23, v24, v25, v26, v27, v28, v29, v30, v31, v32, v33, v34, v35, v36]))] := hD
  have hK : va_K D vwCl [] s := hK
  refine W.widen (k := 1011) (n := 8904) (Nat.le_of_ble_eq_true rfl) (Nat.le_of_ble_eq_true rfl) ?_
  refine lv_iload hx hb dL_law_448 (lv_at hl 1 rfl) ?_
  refine lv_icmp_eq (tgt := 455) hx hb dL_law_450 (by decide) (fun _ => ?_) (fun c9 => absurd (by decide) c9)
  refine lv_iload hx hb dL_law_455 (lv_at hl 1 rfl) ?_
  refine lv_if_ne (tgt := 472) hx hb dL_law_457 (by decide) (fun _ => ?_) (fun c9 => absurd c9 (by decide))
  refine lv_goto (tgt := 2199) hx hb dL_law_472 (by decide) ?_
  refine W.widen (k := 3000) (n := 30000) (Nat.le_of_ble_eq_true rfl) (Nat.le_of_ble_eq_true rfl) ?_
  exact kk _ _ _ hS (lv_sub hl [2, 6] rfl)
set_option maxHeartbeats 4000000 in
set_option maxRecDepth 100000 in
theorem law_6_0 {p : Program} {e : Env} {s : State} {m : MethodId} {below : List Frame} {meth : Method} {c : Code} (l : Launch) (hlt : l.stackTraces = false) {b : Nat} {xs : Nat → Int32} (hx : p.tables.exec = Jvm.exec) (hb : c.code = cL_law) (hml : c.maxLocals = 9) (hown : s.vm.findClass RL = some m.cls) (hg : ∀ w ∈ GW, w.before #[Value.ref b] s = true) (hXs : va_X b 6 xs s s.heap) (hbl : b < s.heap.size) (D : va_G) {A : Nat → Prop} (hA : ∀ q, s.heap.size ≤ q → A q) (hbA : ¬ A b) (hX : XX A s s.heap) (Q : State → Prop) (h0 : Nat) (h1 : Nat) (h2 : Nat) (h3 : Nat) (v0 : Value) (v1 : Value) (v2 : Value) (v3 : Value) (v4 : Value) (v5 : Value) (v6 : Value) (v7 : Value) (v8 : Value) (v9 : Value) (v10 : Value) (v11 : Value) (v12 : Value) (v13 : Value) (v14 : Value) (v15 : Value) (v16 : Value) (v17 : Value) (v18 : Value) (v19 : Value) (v20 : Value) (v21 : Value) (v22 : Value) (v23 : Value) (v24 : Value) (v25 : Value) (v26 : Value) (v27 : Value) (v28 : Value) (v29 : Value) (v30 : Value) (v31 : Value) (v32 : Value) (v33 : Value) (v34 : Value) (v35 : Value) (v36 : Value) (v37 : Value) (v38 : Value) (v39 : Value) (v40 : Value)  (p1 : Int32) (e1 : xs 1 = p1) (bl1 : (-2147483648) ≤ p1.toInt) (bh1 : p1.toInt ≤ (-1)) (p2 : Int32) (e2 : xs 2 = p2) (bl2 : (-2147483648) ≤ p2.toInt) (bh2 : p2.toInt ≤ 2147483647) {H : Heap} {locs : List Loc} {ls : Array Slot} (hP : va_P D vwCl [(h0, .inr (5, [v0, .ref h1, v1, v2, v3, v4, v5, v6, v7, v8])), (h1, .inr (0, [v9, v10, .int 2, v11, v12, v13, v14])), (h2, .inr (6, [v15, v16, v17, v18, v19, v20, v21, .int 2, v22, v23, v24, v25, v26, v27, v28, v29, v30, v31, v32, v33, v34, v35, v36, v37, v38, v39, v40]))] H) (hD : va_D A [(h0, .inr (5, [v0, .ref h1, v1, v2, v3, v4, v5, v6, v7, v8])), (h1, .inr (0, [v9, v10, .int 2, v11, v12, v13, v14])), (h2, .inr (6, [v15, v16, v17, v18, v19, v20, v21, .int 2, v22, v23, v24, v25, v26, v27, v28, v29, v30, v31, v32, v33, v34, v35, v36, v37, v38, v39, v40]))]) (hK : va_K D vwCl [] s) (hS : va_S A s.heap H locs) (hl : lv_has ls 9 [(4, .int 0), (3, .ref h3), (2, .ref h2), (1, .ref h0), (0, .ref b)]) (kk : ∀ (H : Heap) (locs : List Loc) (ls : Array Slot), va_S A s.heap H locs → lv_has ls 9 [(4, .int 0), (0, .ref b)] → W p l e room_1 s m #[Value.ref b] below meth c H locs 3000 30000 Q (F0 m 2199 ls [])) : W p l e room_1 s m #[Value.ref b] below meth c H locs 1010 8898 Q (F0 m 475 ls []) := by
  have d0 : p1 < 0 := i_lt (by have h0 : (0 : Int32).toInt = 0 := (by decide); omega)
  have d1 : (lg_cmp p1.toInt64 0) < 0 := lgq1 (by have h0 : (0 : Int64).toInt = 0 := (by decide); have hp1 := i2lI p1; omega)
  refine lv_aload_n hx hb dL_law_475 rfl (lv_at hl 3 rfl) ?_
  refine lv_aload_n hx hb dL_law_476 rfl (lv_at hl 4 rfl) ?_
  refine lv_iload hx hb dL_law_477 (lv_at hl 0 rfl) ?_
  refine lv_iconst (v := 1) hx hb dL_law_479 (by decide) ?_
  refine lv_iadd hx hb dL_law_480 ?_
  refine ti (1) (by decide) ?_
  refine va_sld hx hb hXs hbl hbA hS (vin (by decide)) dL_law_481 ?_
  refine ti p1 e1 ?_
  refine lv_aload_n hx hb dL_law_482 rfl (lv_at hl 4 rfl) ?_
  refine lv_iload hx hb dL_law_483 (lv_at hl 0 rfl) ?_
  refine lv_iconst (v := 2) hx hb dL_law_485 (by decide) ?_
  refine lv_iadd hx hb dL_law_486 ?_
  refine ti (2) (by decide) ?_
  refine va_sld hx hb hXs hbl hbA hS (vin (by decide)) dL_law_487 ?_
  refine ti p2 e2 ?_
  refine lv_aload_n hx hb dL_law_488 rfl (lv_at hl 1 rfl) ?_
  refine cHi (n := 4) (As := [.ref h0, .int p1, .int p2, .ref h3]) (rest := []) (wr := [(h0, .inr (5, [v0, .ref h1, v1, v2, v3, v4, v5, v6, v7, v8])), (h1, .inr (0, [v9, v10, .int 2, v11, v12, v13, v14])), (h2, .inr (6, [v15, v16, v17, v18, v19, v20, v21, .int 2, v22, v23, v24, v25, v26, v27, v28, v29, v30, v31, v32, v33, v34, v35, v36, v37, v38, v39, v40]))]) (tr := []) hx hb hml hown hg okXX (cL_sample_615 l D hlt h0 p1 p2 h3 h1 v0 v1 v2 v3 v4 v5 v6 v7 v8 v9 v10 v11 v12 v13 v14 d0) (mwHS k854 k855 k83 k856) ⟨by decide, by decide, by decide +kernel⟩ ⟨rfl, rfl, (Nat.le_of_ble_eq_true rfl), (Nat.le_of_ble_eq_true rfl)⟩ hP hD hK hS (okXX.2.2 _ _ _ _ hS.2.1 hX) [0, 1] [] [0, 1, 2] [] [] rfl (by decide) rfl rfl (by decide) (by decide) rfl rfl (aNil hA hS) (aNil hA hS) rfl hl.1 rfl (Nat.le_of_ble_eq_true rfl) dL_law_489 ⟨(Nat.le_of_ble_eq_true rfl), (Nat.le_of_ble_eq_true rfl)⟩ (fun u H locs hφ hP hD hK hS hk => ?_)
  have hP : va_P D vwCl [(h0, .inr (5, [v0, .ref h1, v1, v2, v3, v4, v5, v6, v7, v8])), (h1, .inr (0, [v9, v10, .int 2, v11, v12, v13, v14])), (h2, .inr (6, [v15, v16, v17, v18, v19, v20, v21, .int 2, v22, v23, v24, v25, v26, v27, v28, v29, v30, v31, v32, v33, v34, v35, v36, v37, v38, v39, v40]))] H := hP
  have hD : va_D A [(h0, .inr (5, [v0, .ref h1, v1, v2, v3, v4, v5, v6, v7, v8])), (h1, .inr (0, [v9, v10, .int 2, v11, v12, v13, v14])), (h2, .inr (6, [v15, v16, v17, v18, v19, v20, v21, .int 2, v22, v23, v24, v25, v26, v27, v28, v29, v30, v31, v32, v33, v34, v35, v36, v37, v38, v39, v40]))] := hD
  have hK : va_K D vwCl [] s := hK
  refine W.widen (k := 1011) (n := 8904) (Nat.le_of_ble_eq_true rfl) (Nat.le_of_ble_eq_true rfl) ?_
  refine lv_istore (lv' := [(5, .int 1), (4, .int 0), (3, .ref h3), (2, .ref h2), (1, .ref h0), (0, .ref b)]) hx hb dL_law_492 hl (by decide) rfl (fun ls hl => ?_)
  refine lv_aload_n hx hb dL_law_494 rfl (lv_at hl 3 rfl) ?_
  refine lv_aload_n hx hb dL_law_495 rfl (lv_at hl 5 rfl) ?_
  refine lv_iload hx hb dL_law_496 (lv_at hl 1 rfl) ?_
  refine lv_iconst (v := 1) hx hb dL_law_498 (by decide) ?_
  refine lv_iadd hx hb dL_law_499 ?_
  refine ti (1) (by decide) ?_
  refine va_sld hx hb hXs hbl hbA hS (vin (by decide)) dL_law_500 ?_
  refine ti p1 e1 ?_
  refine lv_aload_n hx hb dL_law_501 rfl (lv_at hl 5 rfl) ?_
  refine lv_iload hx hb dL_law_502 (lv_at hl 1 rfl) ?_
  refine lv_iconst (v := 2) hx hb dL_law_504 (by decide) ?_
  refine lv_iadd hx hb dL_law_505 ?_
  refine ti (2) (by decide) ?_
  refine va_sld hx hb hXs hbl hbA hS (vin (by decide)) dL_law_506 ?_
  refine ti p2 e2 ?_
  refine cVl (n := 2) (As := [.int p1, .int p2]) (rest := []) (wr := [(h0, .inr (5, [v0, .ref h1, v1, v2, v3, v4, v5, v6, v7, v8])), (h1, .inr (0, [v9, v10, .int 2, v11, v12, v13, v14]))]) (tr := []) hx hb hml hown hg okN (cX6_sample_56 l D h2 p1 p2 v15 v16 v17 v18 v19 v20 v21 v22 v23 v24 v25 v26 v27 v28 v29 v30 v31 v32 v33 v34 v35 v36 v37 v38 v39 v40 d1) (mwV k1436 k1437 k1438 k92 k1439) ⟨rfl, by decide, by decide, by decide +kernel⟩ ⟨rfl, rfl, (Nat.le_of_ble_eq_true rfl), (Nat.le_of_ble_eq_true rfl)⟩ hP hD hK hS xn [2] [2] [0, 1] [] [] rfl (by decide) rfl rfl (by decide) (by decide) rfl rfl (va_free hD hS hA [2] rfl) (va_free hD hS hA [2] rfl) 2 rfl rfl rfl hl.1 rfl (Nat.le_of_ble_eq_true rfl) dL_law_507 ⟨(Nat.le_of_ble_eq_true rfl), (Nat.le_of_ble_eq_true rfl)⟩ (fun u H locs hφ hP hD hK hS hk => ?_)
  have hP : va_P D vwCl [(h0, .inr (5, [v0, .ref h1, v1, v2, v3, v4, v5, v6, v7, v8])), (h1, .inr (0, [v9, v10, .int 2, v11, v12, v13, v14])), (h2, .inr (6, [.int 1, v16, v17, v18, v19, v20, v21, .int 2, v22, v23, v24, v25, v26, v27, v28, v29, v30, v31, v32, v33, v34, v35, v36, v37, v38, v39, v40]))] H := hP
  have hD : va_D A [(h0, .inr (5, [v0, .ref h1, v1, v2, v3, v4, v5, v6, v7, v8])), (h1, .inr (0, [v9, v10, .int 2, v11, v12, v13, v14])), (h2, .inr (6, [.int 1, v16, v17, v18, v19, v20, v21, .int 2, v22, v23, v24, v25, v26, v27, v28, v29, v30, v31, v32, v33, v34, v35, v36, v37, v38, v39, v40]))] := hD
  have hK : va_K D vwCl [] s := hK
  refine W.widen (k := 1011) (n := 8904) (Nat.le_of_ble_eq_true rfl) (Nat.le_of_ble_eq_true rfl) ?_
  refine lv_lstore (lv' := [(6, .long 0), (5, .int 1), (4, .int 0), (3, .ref h3), (2, .ref h2), (1, .ref h0), (0, .ref b)]) hx hb dL_law_510 hl (by decide) rfl (fun ls hl => ?_)
  refine lv_aload_n hx hb dL_law_512 rfl (lv_at hl 4 rfl) ?_
  refine cVi (n := 0) (As := []) (rest := []) (wr := [(h0, .inr (5, [v0, .ref h1, v1, v2, v3, v4, v5, v6, v7, v8])), (h1, .inr (0, [v9, v10, .int 2, v11, v12, v13, v14])), (h2, .inr (6, [.int 1, v16, v17, v18, v19, v20, v21, .int 2, v22, v23, v24, v25, v26, v27, v28, v29, v30, v31, v32, v33, v34, v35, v36, v37, v38, v39, v40]))]) (tr := []) hx hb hml hown hg okN (cX6_thrown_601 l D h2 v16 v17 v18 v19 v20 v21 (.int 2) v22 v23 v24 v25 v26 v27 v28 v29 v30 v31 v32 v33 v34 v35 v36 v37 v38 v39 v40) (mwV k1301 k1302 k1303 k92 k1304) ⟨rfl, by decide, by decide, by decide +kernel⟩ ⟨rfl, rfl, (Nat.le_of_ble_eq_true rfl), (Nat.le_of_ble_eq_true rfl)⟩ hP hD hK hS xn [2] [] [0, 1, 2] [] [] rfl (by decide) rfl rfl (by decide) (by decide) rfl rfl (aNil hA hS) (aNil hA hS) 2 rfl rfl rfl hl.1 rfl (Nat.le_of_ble_eq_true rfl) dL_law_513 ⟨(Nat.le_of_ble_eq_true rfl), (Nat.le_of_ble_eq_true rfl)⟩ (fun u H locs hφ hP hD hK hS hk => ?_)
  have hP : va_P D vwCl [(h0, .inr (5, [v0, .ref h1, v1, v2, v3, v4, v5, v6, v7, v8])), (h1, .inr (0, [v9, v10, .int 2, v11, v12, v13, v14])), (h2, .inr (6, [.int 1, v16, v17, v18, v19, v20, v21, .int 2, v22, v23, v24, v25, v26, v27, v28, v29, v30, v31, v32, v33, v34, v35, v36, v37, v38, v39, v40]))] H := hP
  have hD : va_D A [(h0, .inr (5, [v0, .ref h1, v1, v2, v3, v4, v5, v6, v7, v8])), (h1, .inr (0, [v9, v10, .int 2, v11, v12, v13, v14])), (h2, .inr (6, [.int 1, v16, v17, v18, v19, v20, v21, .int 2, v22, v23, v24, v25, v26, v27, v28, v29, v30, v31, v32, v33, v34, v35, v36, v37, v38, v39, v40]))] := hD
  have hK : va_K D vwCl [] s := hK
  refine W.widen (k := 1011) (n := 8904) (Nat.le_of_ble_eq_true rfl) (Nat.le_of_ble_eq_true rfl) ?_
  refine lv_iload hx hb dL_law_516 (lv_at hl 1 rfl) ?_
  refine lv_icmp_eq (tgt := 523) hx hb dL_law_518 (by decide) (fun _ => ?_) (fun c9 => absurd (by decide) c9)
  refine lv_iload hx hb dL_law_523 (lv_at hl 1 rfl) ?_
  refine lv_if_ne (tgt := 539) hx hb dL_law_525 (by decide) (fun _ => ?_) (fun c9 => absurd c9 (by decide))
  refine lv_goto (tgt := 2199) hx hb dL_law_539 (by decide) ?_
  refine W.widen (k := 3000) (n := 30000) (Nat.le_of_ble_eq_true rfl) (Nat.le_of_ble_eq_true rfl) ?_
  exact kk _ _ _ hS (lv_sub hl [2, 6] rfl)
set_option maxHeartbeats 4000000 in
set_option maxRecDepth 100000 in
theorem law_6_1 {p : Program} {e : Env} {s : State} {m : MethodId} {below : List Frame} {meth : Method} {c : Code} (l : Launch) (hlt : l.stackTraces = false) {b : Nat} {xs : Nat → Int32} (hx : p.tables.exec = Jvm.exec) (hb : c.code = cL_law) (hml : c.maxLocals = 9) (hown : s.vm.findClass RL = some m.cls) (hg : ∀ w ∈ GW, w.before #[Value.ref b] s = true) (hXs : va_X b 6 xs s s.heap) (hbl : b < s.heap.size) (D : va_G) {A : Nat → Prop} (hA : ∀ q, s.heap.size ≤ q → A q) (hbA : ¬ A b) (hX : XX A s s.heap) (Q : State → Prop) (h0 : Nat) (h1 : Nat) (h2 : Nat) (h3 : Nat) (v0 : Value) (v1 : Value) (v2 : Value) (v3 : Value) (v4 : Value) (v5 : Value) (v6 : Value) (v7 : Value) (v8 : Value) (v9 : Value) (v10 : Value) (v11 : Value) (v12 : Value) (v13 : Value) (v14 : Value) (v15 : Value) (v16 : Value) (v17 : Value) (v18 : Value) (v19 : Value) (v20 : Value) (v21 : Value) (v22 : Value) (v23 : Value) (v24 : Value) (v25 : Value) (v26 : Value) (v27 : Value) (v28 : Value) (v29 : Value) (v30 : Value) (v31 : Value) (v32 : Value) (v33 : Value) (v34 : Value) (v35 : Value) (v36 : Value) (v37 : Value) (v38 : Value) (v39 : Value) (v40 : Value)  (p1 : Int32) (e1 : xs 1 = p1) (bl1 : 2 ≤ p1.toInt) (bh1 : p1.toInt ≤ 2147483647) (p2 : Int32) (e2 : xs 2 = p2) (bl2 : (-2147483648) ≤ p2.toInt) (bh2 : p2.toInt ≤ 2147483647) {H : Heap} {locs : List Loc} {ls : Array Slot} (hP : va_P D vwCl [(h0, .inr (5, [v0, .ref h1, v1, v2, v3, v4, v5, v6, v7, v8])), (h1, .inr (0, [v9, v10, .int 2, v11, v12, v13, v14])), (h2, .inr (6, [v15, v16, v17, v18, v19, v20, v21, .int 2, v22, v23, v24, v25, v26, v27, v28, v29, v30, v31, v32, v33, v34, v35, v36, v37, v38, v39, v40]))] H) (hD : va_D A [(h0, .inr (5, [v0, .ref h1, v1, v2, v3, v4, v5, v6, v7, v8])), (h1, .inr (0, [v9, v10, .int 2, v11, v12, v13, v14])), (h2, .inr (6, [v15, v16, v17, v18, v19, v20, v21, .int 2, v22, v23, v24, v25, v26, v27, v28, v29, v30, v31, v32, v33, v34, v35, v36, v37, v38, v39, v40]))]) (hK : va_K D vwCl [] s) (hS : va_S A s.heap H locs) (hl : lv_has ls 9 [(4, .int 0), (3, .ref h3), (2, .ref h2), (1, .ref h0), (0, .ref b)]) (kk : ∀ (H : Heap) (locs : List Loc) (ls : Array Slot), va_S A s.heap H locs → lv_has ls 9 [(4, .int 0), (0, .ref b)] → W p l e room_1 s m #[Value.ref b] below meth c H locs 3000 30000 Q (F0 m 2199 ls [])) : W p l e room_1 s m #[Value.ref b] below meth c H locs 1010 8898 Q (F0 m 475 ls []) := by
  have d0 : ¬ (p1 < 0) := i_nlt (by have h0 : (0 : Int32).toInt = 0 := (by decide); omega)
  have d1 : ¬ (p1 < 2) := i_nlt (by have h2 : (2 : Int32).toInt = 2 := (by decide); omega)
  have d2 : ¬ ((lg_cmp p1.toInt64 0) < 0) := lgq3 (by have h0 : (0 : Int64).toInt = 0 := (by decide); have hp1 := i2lI p1; omega)
  have d3 : 0 < (lg_cmp p1.toInt64 1) := lgq5 (by have h1 : (1 : Int64).toInt = 1 := (by decide); have hp1 := i2lI p1; omega)
  refine lv_aload_n hx hb dL_law_475 rfl (lv_at hl 3 rfl) ?_
  refine lv_aload_n hx hb dL_law_476 rfl (lv_at hl 4 rfl) ?_
  refine lv_iload hx hb dL_law_477 (lv_at hl 0 rfl) ?_
  refine lv_iconst (v := 1) hx hb dL_law_479 (by decide) ?_
  refine lv_iadd hx hb dL_law_480 ?_
  refine ti (1) (by decide) ?_
  refine va_sld hx hb hXs hbl hbA hS (vin (by decide)) dL_law_481 ?_
  refine ti p1 e1 ?_
  refine lv_aload_n hx hb dL_law_482 rfl (lv_at hl 4 rfl) ?_
  refine lv_iload hx hb dL_law_483 (lv_at hl 0 rfl) ?_
  refine lv_iconst (v := 2) hx hb dL_law_485 (by decide) ?_
  refine lv_iadd hx hb dL_law_486 ?_
  refine ti (2) (by decide) ?_
  refine va_sld hx hb hXs hbl hbA hS (vin (by decide)) dL_law_487 ?_
  refine ti p2 e2 ?_
  refine lv_aload_n hx hb dL_law_488 rfl (lv_at hl 1 rfl) ?_
  refine cHi (n := 4) (As := [.ref h0, .int p1, .int p2, .ref h3]) (rest := []) (wr := [(h0, .inr (5, [v0, .ref h1, v1, v2, v3, v4, v5, v6, v7, v8])), (h1, .inr (0, [v9, v10, .int 2, v11, v12, v13, v14])), (h2, .inr (6, [v15, v16, v17, v18, v19, v20, v21, .int 2, v22, v23, v24, v25, v26, v27, v28, v29, v30, v31, v32, v33, v34, v35, v36, v37, v38, v39, v40]))]) (tr := []) hx hb hml hown hg okXX (cL_sample_616 l D hlt h0 p1 p2 h3 h1 v0 v1 v2 v3 v4 v5 v6 v7 v8 v9 v10 v11 v12 v13 v14 d0 d1) (mwHS k854 k855 k83 k856) ⟨by decide, by decide, by decide +kernel⟩ ⟨rfl, rfl, (Nat.le_of_ble_eq_true rfl), (Nat.le_of_ble_eq_true rfl)⟩ hP hD hK hS (okXX.2.2 _ _ _ _ hS.2.1 hX) [0, 1] [] [0, 1, 2] [] [] rfl (by decide) rfl rfl (by decide) (by decide) rfl rfl (aNil hA hS) (aNil hA hS) rfl hl.1 rfl (Nat.le_of_ble_eq_true rfl) dL_law_489 ⟨(Nat.le_of_ble_eq_true rfl), (Nat.le_of_ble_eq_true rfl)⟩ (fun u H locs hφ hP hD hK hS hk => ?_)
  have hP : va_P D vwCl [(h0, .inr (5, [v0, .ref h1, v1, v2, v3, v4, v5, v6, v7, v8])), (h1, .inr (0, [v9, v10, .int 2, v11, v12, v13, v14])), (h2, .inr (6, [v15, v16, v17, v18, v19, v20, v21, .int 2, v22, v23, v24, v25, v26, v27, v28, v29, v30, v31, v32, v33, v34, v35, v36, v37, v38, v39, v40]))] H := hP
  have hD : va_D A [(h0, .inr (5, [v0, .ref h1, v1, v2, v3, v4, v5, v6, v7, v8])), (h1, .inr (0, [v9, v10, .int 2, v11, v12, v13, v14])), (h2, .inr (6, [v15, v16, v17, v18, v19, v20, v21, .int 2, v22, v23, v24, v25, v26, v27, v28, v29, v30, v31, v32, v33, v34, v35, v36, v37, v38, v39, v40]))] := hD
  have hK : va_K D vwCl [] s := hK
  refine W.widen (k := 1011) (n := 8904) (Nat.le_of_ble_eq_true rfl) (Nat.le_of_ble_eq_true rfl) ?_
  refine lv_istore (lv' := [(5, .int 1), (4, .int 0), (3, .ref h3), (2, .ref h2), (1, .ref h0), (0, .ref b)]) hx hb dL_law_492 hl (by decide) rfl (fun ls hl => ?_)
  refine lv_aload_n hx hb dL_law_494 rfl (lv_at hl 3 rfl) ?_
  refine lv_aload_n hx hb dL_law_495 rfl (lv_at hl 5 rfl) ?_
  refine lv_iload hx hb dL_law_496 (lv_at hl 1 rfl) ?_
  refine lv_iconst (v := 1) hx hb dL_law_498 (by decide) ?_
  refine lv_iadd hx hb dL_law_499 ?_
  refine ti (1) (by decide) ?_
  refine va_sld hx hb hXs hbl hbA hS (vin (by decide)) dL_law_500 ?_
  refine ti p1 e1 ?_
  refine lv_aload_n hx hb dL_law_501 rfl (lv_at hl 5 rfl) ?_
  refine lv_iload hx hb dL_law_502 (lv_at hl 1 rfl) ?_
  refine lv_iconst (v := 2) hx hb dL_law_504 (by decide) ?_
  refine lv_iadd hx hb dL_law_505 ?_
  refine ti (2) (by decide) ?_
  refine va_sld hx hb hXs hbl hbA hS (vin (by decide)) dL_law_506 ?_
  refine ti p2 e2 ?_
  refine cVl (n := 2) (As := [.int p1, .int p2]) (rest := []) (wr := [(h0, .inr (5, [v0, .ref h1, v1, v2, v3, v4, v5, v6, v7, v8])), (h1, .inr (0, [v9, v10, .int 2, v11, v12, v13, v14]))]) (tr := []) hx hb hml hown hg okN (cX6_sample_59 l D h2 p1 p2 v15 v16 v17 v18 v19 v20 v21 v22 v23 v24 v25 v26 v27 v28 v29 v30 v31 v32 v33 v34 v35 v36 v37 v38 v39 v40 d2 d3) (mwV k1436 k1437 k1438 k92 k1439) ⟨rfl, by decide, by decide, by decide +kernel⟩ ⟨rfl, rfl, (Nat.le_of_ble_eq_true rfl), (Nat.le_of_ble_eq_true rfl)⟩ hP hD hK hS xn [2] [2] [0, 1] [] [] rfl (by decide) rfl rfl (by decide) (by decide) rfl rfl (va_free hD hS hA [2] rfl) (va_free hD hS hA [2] rfl) 2 rfl rfl rfl hl.1 rfl (Nat.le_of_ble_eq_true rfl) dL_law_507 ⟨(Nat.le_of_ble_eq_true rfl), (Nat.le_of_ble_eq_true rfl)⟩ (fun u H locs hφ hP hD hK hS hk => ?_)
  have hP : va_P D vwCl [(h0, .inr (5, [v0, .ref h1, v1, v2, v3, v4, v5, v6, v7, v8])), (h1, .inr (0, [v9, v10, .int 2, v11, v12, v13, v14])), (h2, .inr (6, [.int 1, v16, v17, v18, v19, v20, v21, .int 2, v22, v23, v24, v25, v26, v27, v28, v29, v30, v31, v32, v33, v34, v35, v36, v37, v38, v39, v40]))] H := hP
  have hD : va_D A [(h0, .inr (5, [v0, .ref h1, v1, v2, v3, v4, v5, v6, v7, v8])), (h1, .inr (0, [v9, v10, .int 2, v11, v12, v13, v14])), (h2, .inr (6, [.int 1, v16, v17, v18, v19, v20, v21, .int 2, v22, v23, v24, v25, v26, v27, v28, v29, v30, v31, v32, v33, v34, v35, v36, v37, v38, v39, v40]))] := hD
  have hK : va_K D vwCl [] s := hK
  refine W.widen (k := 1011) (n := 8904) (Nat.le_of_ble_eq_true rfl) (Nat.le_of_ble_eq_true rfl) ?_
  refine lv_lstore (lv' := [(6, .long 0), (5, .int 1), (4, .int 0), (3, .ref h3), (2, .ref h2), (1, .ref h0), (0, .ref b)]) hx hb dL_law_510 hl (by decide) rfl (fun ls hl => ?_)
  refine lv_aload_n hx hb dL_law_512 rfl (lv_at hl 4 rfl) ?_
  refine cVi (n := 0) (As := []) (rest := []) (wr := [(h0, .inr (5, [v0, .ref h1, v1, v2, v3, v4, v5, v6, v7, v8])), (h1, .inr (0, [v9, v10, .int 2, v11, v12, v13, v14])), (h2, .inr (6, [.int 1, v16, v17, v18, v19, v20, v21, .int 2, v22, v23, v24, v25, v26, v27, v28, v29, v30, v31, v32, v33, v34, v35, v36, v37, v38, v39, v40]))]) (tr := []) hx hb hml hown hg okN (cX6_thrown_601 l D h2 v16 v17 v18 v19 v20 v21 (.int 2) v22 v23 v24 v25 v26 v27 v28 v29 v30 v31 v32 v33 v34 v35 v36 v37 v38 v39 v40) (mwV k1301 k1302 k1303 k92 k1304) ⟨rfl, by decide, by decide, by decide +kernel⟩ ⟨rfl, rfl, (Nat.le_of_ble_eq_true rfl), (Nat.le_of_ble_eq_true rfl)⟩ hP hD hK hS xn [2] [] [0, 1, 2] [] [] rfl (by decide) rfl rfl (by decide) (by decide) rfl rfl (aNil hA hS) (aNil hA hS) 2 rfl rfl rfl hl.1 rfl (Nat.le_of_ble_eq_true rfl) dL_law_513 ⟨(Nat.le_of_ble_eq_true rfl), (Nat.le_of_ble_eq_true rfl)⟩ (fun u H locs hφ hP hD hK hS hk => ?_)
  have hP : va_P D vwCl [(h0, .inr (5, [v0, .ref h1, v1, v2, v3, v4, v5, v6, v7, v8])), (h1, .inr (0, [v9, v10, .int 2, v11, v12, v13, v14])), (h2, .inr (6, [.int 1, v16, v17, v18, v19, v20, v21, .int 2, v22, v23, v24, v25, v26, v27, v28, v29, v30, v31, v32, v33, v34, v35, v36, v37, v38, v39, v40]))] H := hP
  have hD : va_D A [(h0, .inr (5, [v0, .ref h1, v1, v2, v3, v4, v5, v6, v7, v8])), (h1, .inr (0, [v9, v10, .int 2, v11, v12, v13, v14])), (h2, .inr (6, [.int 1, v16, v17, v18, v19, v20, v21, .int 2, v22, v23, v24, v25, v26, v27, v28, v29, v30, v31, v32, v33, v34, v35, v36, v37, v38, v39, v40]))] := hD
  have hK : va_K D vwCl [] s := hK
  refine W.widen (k := 1011) (n := 8904) (Nat.le_of_ble_eq_true rfl) (Nat.le_of_ble_eq_true rfl) ?_
  refine lv_iload hx hb dL_law_516 (lv_at hl 1 rfl) ?_
  refine lv_icmp_eq (tgt := 523) hx hb dL_law_518 (by decide) (fun _ => ?_) (fun c9 => absurd (by decide) c9)
  refine lv_iload hx hb dL_law_523 (lv_at hl 1 rfl) ?_
  refine lv_if_ne (tgt := 539) hx hb dL_law_525 (by decide) (fun _ => ?_) (fun c9 => absurd c9 (by decide))
  refine lv_goto (tgt := 2199) hx hb dL_law_539 (by decide) ?_
  refine W.widen (k := 3000) (n := 30000) (Nat.le_of_ble_eq_true rfl) (Nat.le_of_ble_eq_true rfl) ?_
  exact kk _ _ _ hS (lv_sub hl [2, 6] rfl)
set_option maxHeartbeats 4000000 in
set_option maxRecDepth 100000 in
theorem law_6_2 {p : Program} {e : Env} {s : State} {m : MethodId} {below : List Frame} {meth : Method} {c : Code} (l : Launch) (hlt : l.stackTraces = false) {b : Nat} {xs : Nat → Int32} (hx : p.tables.exec = Jvm.exec) (hb : c.code = cL_law) (hml : c.maxLocals = 9) (hown : s.vm.findClass RL = some m.cls) (hg : ∀ w ∈ GW, w.before #[Value.ref b] s = true) (hXs : va_X b 6 xs s s.heap) (hbl : b < s.heap.size) (D : va_G) {A : Nat → Prop} (hA : ∀ q, s.heap.size ≤ q → A q) (hbA : ¬ A b) (hX : XX A s s.heap) (Q : State → Prop) (h0 : Nat) (h1 : Nat) (h2 : Nat) (h3 : Nat) (v0 : Value) (v1 : Value) (v2 : Value) (v3 : Value) (v4 : Value) (v5 : Value) (v6 : Value) (v7 : Value) (v8 : Value) (v9 : Value) (v10 : Value) (v11 : Value) (v12 : Value) (v13 : Value) (v14 : Value) (v15 : Value) (v16 : Value) (v17 : Value) (v18 : Value) (v19 : Value) (v20 : Value) (v21 : Value) (v22 : Value) (v23 : Value) (v24 : Value) (v25 : Value) (v26 : Value) (v27 : Value) (v28 : Value) (v29 : Value) (v30 : Value) (v31 : Value) (v32 : Value) (v33 : Value) (v34 : Value) (v35 : Value) (v36 : Value) (v37 : Value) (v38 : Value) (v39 : Value) (v40 : Value)  (e1 : xs 1 = 0) (p2 : Int32) (e2 : xs 2 = p2) (bl2 : (-2147483648) ≤ p2.toInt) (bh2 : p2.toInt ≤ (-1)) {H : Heap} {locs : List Loc} {ls : Array Slot} (hP : va_P D vwCl [(h0, .inr (5, [v0, .ref h1, v1, v2, v3, v4, v5, v6, v7, v8])), (h1, .inr (0, [v9, v10, .int 2, v11, v12, v13, v14])), (h2, .inr (6, [v15, v16, v17, v18, v19, v20, v21, .int 2, v22, v23, v24, v25, v26, v27, v28, v29, v30, v31, v32, v33, v34, v35, v36, v37, v38, v39, v40]))] H) (hD : va_D A [(h0, .inr (5, [v0, .ref h1, v1, v2, v3, v4, v5, v6, v7, v8])), (h1, .inr (0, [v9, v10, .int 2, v11, v12, v13, v14])), (h2, .inr (6, [v15, v16, v17, v18, v19, v20, v21, .int 2, v22, v23, v24, v25, v26, v27, v28, v29, v30, v31, v32, v33, v34, v35, v36, v37, v38, v39, v40]))]) (hK : va_K D vwCl [] s) (hS : va_S A s.heap H locs) (hl : lv_has ls 9 [(4, .int 0), (3, .ref h3), (2, .ref h2), (1, .ref h0), (0, .ref b)]) (kk : ∀ (H : Heap) (locs : List Loc) (ls : Array Slot), va_S A s.heap H locs → lv_has ls 9 [(4, .int 0), (0, .ref b)] → W p l e room_1 s m #[Value.ref b] below meth c H locs 3000 30000 Q (F0 m 2199 ls [])) : W p l e room_1 s m #[Value.ref b] below meth c H locs 1010 8898 Q (F0 m 475 ls []) := by
  have d0 : p2.toInt < 0 ∨ 5 < p2.toInt := (by omega)
  have d1 : (lg_cmp p2.toInt64 0) < 0 := lgq1 (by have h0 : (0 : Int64).toInt = 0 := (by decide); have hp2 := i2lI p2; omega)
  refine lv_aload_n hx hb dL_law_475 rfl (lv_at hl 3 rfl) ?_
  refine lv_aload_n hx hb dL_law_476 rfl (lv_at hl 4 rfl) ?_
  refine lv_iload hx hb dL_law_477 (lv_at hl 0 rfl) ?_
  refine lv_iconst (v := 1) hx hb dL_law_479 (by decide) ?_
  refine lv_iadd hx hb dL_law_480 ?_
  refine ti (1) (by decide) ?_
  refine va_sld hx hb hXs hbl hbA hS (vin (by decide)) dL_law_481 ?_
  refine ti 0 e1 ?_
  refine lv_aload_n hx hb dL_law_482 rfl (lv_at hl 4 rfl) ?_
  refine lv_iload hx hb dL_law_483 (lv_at hl 0 rfl) ?_
  refine lv_iconst (v := 2) hx hb dL_law_485 (by decide) ?_
  refine lv_iadd hx hb dL_law_486 ?_
  refine ti (2) (by decide) ?_
  refine va_sld hx hb hXs hbl hbA hS (vin (by decide)) dL_law_487 ?_
  refine ti p2 e2 ?_
  refine lv_aload_n hx hb dL_law_488 rfl (lv_at hl 1 rfl) ?_
  refine cHi (n := 4) (As := [.ref h0, .int 0, .int p2, .ref h3]) (rest := []) (wr := [(h0, .inr (5, [v0, .ref h1, v1, v2, v3, v4, v5, v6, v7, v8])), (h1, .inr (0, [v9, v10, .int 2, v11, v12, v13, v14])), (h2, .inr (6, [v15, v16, v17, v18, v19, v20, v21, .int 2, v22, v23, v24, v25, v26, v27, v28, v29, v30, v31, v32, v33, v34, v35, v36, v37, v38, v39, v40]))]) (tr := []) hx hb hml hown hg okXX (cL_sample_617 l D hlt h0 p2 h3 h1 v0 v1 v2 v3 v4 v5 v6 v7 v8 v9 v10 v11 v12 v13 v14 d0) (mwHS k854 k855 k83 k856) ⟨by decide, by decide, by decide +kernel⟩ ⟨rfl, rfl, (Nat.le_of_ble_eq_true rfl), (Nat.le_of_ble_eq_true rfl)⟩ hP hD hK hS (okXX.2.2 _ _ _ _ hS.2.1 hX) [0, 1] [] [0, 1, 2] [] [] rfl (by decide) rfl rfl (by decide) (by decide) rfl rfl (aNil hA hS) (aNil hA hS) rfl hl.1 rfl (Nat.le_of_ble_eq_true rfl) dL_law_489 ⟨(Nat.le_of_ble_eq_true rfl), (Nat.le_of_ble_eq_true rfl)⟩ (fun u H locs hφ hP hD hK hS hk => ?_)
  have hP : va_P D vwCl [(h0, .inr (5, [v0, .ref h1, v1, v2, v3, v4, v5, v6, v7, v8])), (h1, .inr (0, [v9, v10, .int 2, v11, v12, v13, v14])), (h2, .inr (6, [v15, v16, v17, v18, v19, v20, v21, .int 2, v22, v23, v24, v25, v26, v27, v28, v29, v30, v31, v32, v33, v34, v35, v36, v37, v38, v39, v40]))] H := hP
  have hD : va_D A [(h0, .inr (5, [v0, .ref h1, v1, v2, v3, v4, v5, v6, v7, v8])), (h1, .inr (0, [v9, v10, .int 2, v11, v12, v13, v14])), (h2, .inr (6, [v15, v16, v17, v18, v19, v20, v21, .int 2, v22, v23, v24, v25, v26, v27, v28, v29, v30, v31, v32, v33, v34, v35, v36, v37, v38, v39, v40]))] := hD
  have hK : va_K D vwCl [] s := hK
  refine W.widen (k := 1011) (n := 8904) (Nat.le_of_ble_eq_true rfl) (Nat.le_of_ble_eq_true rfl) ?_
  refine lv_istore (lv' := [(5, .int 2), (4, .int 0), (3, .ref h3), (2, .ref h2), (1, .ref h0), (0, .ref b)]) hx hb dL_law_492 hl (by decide) rfl (fun ls hl => ?_)
  refine lv_aload_n hx hb dL_law_494 rfl (lv_at hl 3 rfl) ?_
  refine lv_aload_n hx hb dL_law_495 rfl (lv_at hl 5 rfl) ?_
  refine lv_iload hx hb dL_law_496 (lv_at hl 1 rfl) ?_
  refine lv_iconst (v := 1) hx hb dL_law_498 (by decide) ?_
  refine lv_iadd hx hb dL_law_499 ?_
  refine ti (1) (by decide) ?_
  refine va_sld hx hb hXs hbl hbA hS (vin (by decide)) dL_law_500 ?_
  refine ti 0 e1 ?_
  refine lv_aload_n hx hb dL_law_501 rfl (lv_at hl 5 rfl) ?_
  refine lv_iload hx hb dL_law_502 (lv_at hl 1 rfl) ?_
  refine lv_iconst (v := 2) hx hb dL_law_504 (by decide) ?_
  refine lv_iadd hx hb dL_law_505 ?_
  refine ti (2) (by decide) ?_
  refine va_sld hx hb hXs hbl hbA hS (vin (by decide)) dL_law_506 ?_
  refine ti p2 e2 ?_
  refine cVl (n := 2) (As := [.int 0, .int p2]) (rest := []) (wr := [(h0, .inr (5, [v0, .ref h1, v1, v2, v3, v4, v5, v6, v7, v8])), (h1, .inr (0, [v9, v10, .int 2, v11, v12, v13, v14]))]) (tr := []) hx hb hml hown hg okN (cX6_sample_62 l D h2 p2 v15 v16 v17 v18 v19 v20 v21 v22 v23 v24 v25 v26 v27 v28 v29 v30 v31 v32 v33 v34 v35 v36 v37 v38 v39 v40 d1) (mwV k1436 k1437 k1438 k92 k1439) ⟨rfl, by decide, by decide, by decide +kernel⟩ ⟨rfl, rfl, (Nat.le_of_ble_eq_true rfl), (Nat.le_of_ble_eq_true rfl)⟩ hP hD hK hS xn [2] [2] [0, 1] [] [] rfl (by decide) rfl rfl (by decide) (by decide) rfl rfl (va_free hD hS hA [2] rfl) (va_free hD hS hA [2] rfl) 2 rfl rfl rfl hl.1 rfl (Nat.le_of_ble_eq_true rfl) dL_law_507 ⟨(Nat.le_of_ble_eq_true rfl), (Nat.le_of_ble_eq_true rfl)⟩ (fun u H locs hφ hP hD hK hS hk => ?_)
  have hP : va_P D vwCl [(h0, .inr (5, [v0, .ref h1, v1, v2, v3, v4, v5, v6, v7, v8])), (h1, .inr (0, [v9, v10, .int 2, v11, v12, v13, v14])), (h2, .inr (6, [.int 2, v16, v17, v18, v19, v20, v21, .int 2, v22, v23, v24, v25, v26, v27, v28, v29, v30, v31, v32, v33, v34, v35, v36, v37, v38, v39, v40]))] H := hP
  have hD : va_D A [(h0, .inr (5, [v0, .ref h1, v1, v2, v3, v4, v5, v6, v7, v8])), (h1, .inr (0, [v9, v10, .int 2, v11, v12, v13, v14])), (h2, .inr (6, [.int 2, v16, v17, v18, v19, v20, v21, .int 2, v22, v23, v24, v25, v26, v27, v28, v29, v30, v31, v32, v33, v34, v35, v36, v37, v38, v39, v40]))] := hD
  have hK : va_K D vwCl [] s := hK
  refine W.widen (k := 1011) (n := 8904) (Nat.le_of_ble_eq_true rfl) (Nat.le_of_ble_eq_true rfl) ?_
  refine lv_lstore (lv' := [(6, .long 0), (5, .int 2), (4, .int 0), (3, .ref h3), (2, .ref h2), (1, .ref h0), (0, .ref b)]) hx hb dL_law_510 hl (by decide) rfl (fun ls hl => ?_)
  refine lv_aload_n hx hb dL_law_512 rfl (lv_at hl 4 rfl) ?_
  refine cVi (n := 0) (As := []) (rest := []) (wr := [(h0, .inr (5, [v0, .ref h1, v1, v2, v3, v4, v5, v6, v7, v8])), (h1, .inr (0, [v9, v10, .int 2, v11, v12, v13, v14])), (h2, .inr (6, [.int 2, v16, v17, v18, v19, v20, v21, .int 2, v22, v23, v24, v25, v26, v27, v28, v29, v30, v31, v32, v33, v34, v35, v36, v37, v38, v39, v40]))]) (tr := []) hx hb hml hown hg okN (cX6_thrown_618 l D h2 v16 v17 v18 v19 v20 v21 (.int 2) v22 v23 v24 v25 v26 v27 v28 v29 v30 v31 v32 v33 v34 v35 v36 v37 v38 v39 v40) (mwV k1301 k1302 k1303 k92 k1304) ⟨rfl, by decide, by decide, by decide +kernel⟩ ⟨rfl, rfl, (Nat.le_of_ble_eq_true rfl), (Nat.le_of_ble_eq_true rfl)⟩ hP hD hK hS xn [2] [] [0, 1, 2] [] [] rfl (by decide) rfl rfl (by decide) (by decide) rfl rfl (aNil hA hS) (aNil hA hS) 2 rfl rfl rfl hl.1 rfl (Nat.le_of_ble_eq_true rfl) dL_law_513 ⟨(Nat.le_of_ble_eq_true rfl), (Nat.le_of_ble_eq_true rfl)⟩ (fun u H locs hφ hP hD hK hS hk => ?_)
  have hP : va_P D vwCl [(h0, .inr (5, [v0, .ref h1, v1, v2, v3, v4, v5, v6, v7, v8])), (h1, .inr (0, [v9, v10, .int 2, v11, v12, v13, v14])), (h2, .inr (6, [.int 2, v16, v17, v18, v19, v20, v21, .int 2, v22, v23, v24, v25, v26, v27, v28, v29, v30, v31, v32, v33, v34, v35, v36, v37, v38, v39, v40]))] H := hP
  have hD : va_D A [(h0, .inr (5, [v0, .ref h1, v1, v2, v3, v4, v5, v6, v7, v8])), (h1, .inr (0, [v9, v10, .int 2, v11, v12, v13, v14])), (h2, .inr (6, [.int 2, v16, v17, v18, v19, v20, v21, .int 2, v22, v23, v24, v25, v26, v27, v28, v29, v30, v31, v32, v33, v34, v35, v36, v37, v38, v39, v40]))] := hD
  have hK : va_K D vwCl [] s := hK
  refine W.widen (k := 1011) (n := 8904) (Nat.le_of_ble_eq_true rfl) (Nat.le_of_ble_eq_true rfl) ?_
  refine lv_iload hx hb dL_law_516 (lv_at hl 1 rfl) ?_
  refine lv_icmp_eq (tgt := 523) hx hb dL_law_518 (by decide) (fun _ => ?_) (fun c9 => absurd (by decide) c9)
  refine lv_iload hx hb dL_law_523 (lv_at hl 1 rfl) ?_
  refine lv_if_ne (tgt := 539) hx hb dL_law_525 (by decide) (fun _ => ?_) (fun c9 => absurd c9 (by decide))
  refine lv_goto (tgt := 2199) hx hb dL_law_539 (by decide) ?_
  refine W.widen (k := 3000) (n := 30000) (Nat.le_of_ble_eq_true rfl) (Nat.le_of_ble_eq_true rfl) ?_
  exact kk _ _ _ hS (lv_sub hl [2, 6] rfl)
set_option maxHeartbeats 4000000 in
set_option maxRecDepth 100000 in
theorem law_6_3 {p : Program} {e : Env} {s : State} {m : MethodId} {below : List Frame} {meth : Method} {c : Code} (l : Launch) (hlt : l.stackTraces = false) {b : Nat} {xs : Nat → Int32} (hx : p.tables.exec = Jvm.exec) (hb : c.code = cL_law) (hml : c.maxLocals = 9) (hown : s.vm.findClass RL = some m.cls) (hg : ∀ w ∈ GW, w.before #[Value.ref b] s = true) (hXs : va_X b 6 xs s s.heap) (hbl : b < s.heap.size) (D : va_G) {A : Nat → Prop} (hA : ∀ q, s.heap.size ≤ q → A q) (hbA : ¬ A b) (hX : XX A s s.heap) (Q : State → Prop) (h0 : Nat) (h1 : Nat) (h2 : Nat) (h3 : Nat) (h4 : Nat) (h5 : Nat) (v0 : Value) (v1 : Value) (v2 : Value) (v3 : Value) (v4 : Value) (v5 : Value) (v6 : Value) (v7 : Value) (v8 : Value) (v9 : Value) (v10 : Value) (v11 : Value) (v12 : Value) (v13 : Value) (f0 : Nat → Int32) (f1 : Nat → Int64) (v14 : Value) (v15 : Value) (v16 : Value) (v17 : Value) (v18 : Value) (v19 : Value) (v20 : Value) (v21 : Value) (v22 : Value) (v23 : Value) (v24 : Value) (v25 : Value) (v26 : Value) (v27 : Value) (v28 : Value) (v29 : Value) (v30 : Value) (v31 : Value) (v32 : Value) (v33 : Value) (v34 : Value) (v35 : Value) (v36 : Value) (v37 : Value) (v38 : Value) (f2 : Nat → Int32) (a0 : ClassId) (a1 : ClassId) (a2 : ClassId) (ef0_0 : f0 0 = 0) (ef2_0 : f2 0 = 0) (e1 : xs 1 = 0) (e2 : xs 2 = 0) {H : Heap} {locs : List Loc} {ls : Array Slot} (hP : va_P D vwCl [(h0, .inr (5, [v0, .ref h1, v1, v2, v3, v4, v5, v6, v7, v8])), (h1, .inr (0, [.ref h2, v9, .int 2, v10, v11, v12, v13])), (h2, .inl (a0, 48, .inl f0)), (h3, .inl (a1, 1, .inr (.inl f1))), (h4, .inr (6, [v14, v15, v16, v17, v18, .ref h5, v19, .int 2, v20, v21, v22, v23, v24, v25, v26, v27, v28, v29, v30, v31, v32, v33, v34, v35, v36, v37, v38])), (h5, .inl (a2, 48, .inl f2))] H) (hD : va_D A [(h0, .inr (5, [v0, .ref h1, v1, v2, v3, v4, v5, v6, v7, v8])), (h1, .inr (0, [.ref h2, v9, .int 2, v10, v11, v12, v13])), (h2, .inl (a0, 48, .inl f0)), (h3, .inl (a1, 1, .inr (.inl f1))), (h4, .inr (6, [v14, v15, v16, v17, v18, .ref h5, v19, .int 2, v20, v21, v22, v23, v24, v25, v26, v27, v28, v29, v30, v31, v32, v33, v34, v35, v36, v37, v38])), (h5, .inl (a2, 48, .inl f2))]) (hK : va_K D vwCl [(a0, .int), (a1, .long), (a2, .int)] s) (hS : va_S A s.heap H locs) (hl : lv_has ls 9 [(4, .int 0), (3, .ref h3), (2, .ref h4), (1, .ref h0), (0, .ref b)]) (kk : ∀ (H : Heap) (locs : List Loc) (ls : Array Slot), va_S A s.heap H locs → lv_has ls 9 [(4, .int 0), (0, .ref b)] → W p l e room_1 s m #[Value.ref b] below meth c H locs 3000 30000 Q (F0 m 2199 ls [])) : W p l e room_1 s m #[Value.ref b] below meth c H locs 1010 8898 Q (F0 m 475 ls []) := by
  refine lv_aload_n hx hb dL_law_475 rfl (lv_at hl 3 rfl) ?_
  refine lv_aload_n hx hb dL_law_476 rfl (lv_at hl 4 rfl) ?_
  refine lv_iload hx hb dL_law_477 (lv_at hl 0 rfl) ?_
  refine lv_iconst (v := 1) hx hb dL_law_479 (by decide) ?_
  refine lv_iadd hx hb dL_law_480 ?_
  refine ti (1) (by decide) ?_
  refine va_sld hx hb hXs hbl hbA hS (vin (by decide)) dL_law_481 ?_
  refine ti 0 e1 ?_
  refine lv_aload_n hx hb dL_law_482 rfl (lv_at hl 4 rfl) ?_
  refine lv_iload hx hb dL_law_483 (lv_at hl 0 rfl) ?_
  refine lv_iconst (v := 2) hx hb dL_law_485 (by decide) ?_
  refine lv_iadd hx hb dL_law_486 ?_
  refine ti (2) (by decide) ?_
  refine va_sld hx hb hXs hbl hbA hS (vin (by decide)) dL_law_487 ?_
  refine ti 0 e2 ?_
  refine lv_aload_n hx hb dL_law_488 rfl (lv_at hl 1 rfl) ?_
  refine cHi (n := 4) (As := [.ref h0, .int 0, .int 0, .ref h3]) (rest := []) (wr := [(h4, .inr (6, [v14, v15, v16, v17, v18, .ref h5, v19, .int 2, v20, v21, v22, v23, v24, v25, v26, v27, v28, v29, v30, v31, v32, v33, v34, v35, v36, v37, v38])), (h5, .inl (a2, 48, .inl f2))]) (tr := [(a2, .int)]) hx hb hml hown hg okN (cL_sample_619 l D h0 h3 h1 h2 v0 v1 v2 v3 v4 v5 v6 v7 v8 f1 v9 v10 v11 v12 v13 f0 a1 a0 ef0_0) (mwHS k854 k855 k83 k856) ⟨by decide, by decide, by decide +kernel⟩ ⟨rfl, rfl, (Nat.le_of_ble_eq_true rfl), (Nat.le_of_ble_eq_true rfl)⟩ hP hD hK hS xn [0, 3, 1, 2] [0, 3, 1, 2] [4, 5] [1, 0] [2] rfl (by decide) rfl rfl (by decide) (by decide) rfl rfl (va_free hD hS hA [0, 3, 1, 2] rfl) (va_free hD hS hA [0, 3, 1, 2] rfl) rfl hl.1 rfl (Nat.le_of_ble_eq_true rfl) dL_law_489 ⟨(Nat.le_of_ble_eq_true rfl), (Nat.le_of_ble_eq_true rfl)⟩ (fun u H locs hφ hP hD hK hS hk => ?_)
  have hP : va_P D vwCl [(h4, .inr (6, [v14, v15, v16, v17, v18, .ref h5, v19, .int 2, v20, v21, v22, v23, v24, v25, v26, v27, v28, v29, v30, v31, v32, v33, v34, v35, v36, v37, v38])), (h5, .inl (a2, 48, .inl f2)), (h0, .inr (5, [v0, .ref h1, v1, v2, v3, v4, v5, v6, v7, v8])), (h3, .inl (a1, 1, .inr (.inl (vp_updL f1 0 0)))), (h1, .inr (0, [.ref h2, v9, .int 2, v10, v11, v12, v13])), (h2, .inl (a0, 48, .inl f0))] H := hP
  have hD : va_D A [(h4, .inr (6, [v14, v15, v16, v17, v18, .ref h5, v19, .int 2, v20, v21, v22, v23, v24, v25, v26, v27, v28, v29, v30, v31, v32, v33, v34, v35, v36, v37, v38])), (h5, .inl (a2, 48, .inl f2)), (h0, .inr (5, [v0, .ref h1, v1, v2, v3, v4, v5, v6, v7, v8])), (h3, .inl (a1, 1, .inr (.inl (vp_updL f1 0 0)))), (h1, .inr (0, [.ref h2, v9, .int 2, v10, v11, v12, v13])), (h2, .inl (a0, 48, .inl f0))] := hD
  have hK : va_K D vwCl [(a2, .int), (a1, .long), (a0, .int)] s := hK
  refine W.widen (k := 1010) (n := 8898) (Nat.le_of_ble_eq_true rfl) (Nat.le_of_ble_eq_true rfl) ?_
  refine lv_istore (lv' := [(5, .int 0), (4, .int 0), (3, .ref h3), (2, .ref h4), (1, .ref h0), (0, .ref b)]) hx hb dL_law_492 hl (by decide) rfl (fun ls hl => ?_)
  refine lv_aload_n hx hb dL_law_494 rfl (lv_at hl 3 rfl) ?_
  refine lv_aload_n hx hb dL_law_495 rfl (lv_at hl 5 rfl) ?_
  refine lv_iload hx hb dL_law_496 (lv_at hl 1 rfl) ?_
  refine lv_iconst (v := 1) hx hb dL_law_498 (by decide) ?_
  refine lv_iadd hx hb dL_law_499 ?_
  refine ti (1) (by decide) ?_
  refine va_sld hx hb hXs hbl hbA hS (vin (by decide)) dL_law_500 ?_
  refine ti 0 e1 ?_
  refine lv_aload_n hx hb dL_law_501 rfl (lv_at hl 5 rfl) ?_
  refine lv_iload hx hb dL_law_502 (lv_at hl 1 rfl) ?_
  refine lv_iconst (v := 2) hx hb dL_law_504 (by decide) ?_
  refine lv_iadd hx hb dL_law_505 ?_
  refine ti (2) (by decide) ?_
  refine va_sld hx hb hXs hbl hbA hS (vin (by decide)) dL_law_506 ?_
  refine ti 0 e2 ?_
  refine cVl (n := 2) (As := [.int 0, .int 0]) (rest := []) (wr := [(h0, .inr (5, [v0, .ref h1, v1, v2, v3, v4, v5, v6, v7, v8])), (h3, .inl (a1, 1, .inr (.inl (vp_updL f1 0 0)))), (h1, .inr (0, [.ref h2, v9, .int 2, v10, v11, v12, v13])), (h2, .inl (a0, 48, .inl f0))]) (tr := [(a1, .long), (a0, .int)]) hx hb hml hown hg okN (cX6_sample_66 l D h4 h5 v14 v15 v16 v17 v18 v19 v20 v21 v22 v23 v24 v25 v26 v27 v28 v29 v30 v31 v32 v33 v34 v35 v36 v37 v38 f2 a2 ef2_0) (mwV k1436 k1437 k1438 k92 k1439) ⟨rfl, by decide, by decide, by decide +kernel⟩ ⟨rfl, rfl, (Nat.le_of_ble_eq_true rfl), (Nat.le_of_ble_eq_true rfl)⟩ hP hD hK hS xn [0, 1] [0, 1] [2, 3, 4, 5] [0] [1, 2] rfl (by decide) rfl rfl (by decide) (by decide) rfl rfl (va_free hD hS hA [0, 1] rfl) (va_free hD hS hA [0, 1] rfl) 0 rfl rfl rfl hl.1 rfl (Nat.le_of_ble_eq_true rfl) dL_law_507 ⟨(Nat.le_of_ble_eq_true rfl), (Nat.le_of_ble_eq_true rfl)⟩ (fun u H locs hφ hP hD hK hS hk => ?_)
  have hP : va_P D vwCl [(h0, .inr (5, [v0, .ref h1, v1, v2, v3, v4, v5, v6, v7, v8])), (h3, .inl (a1, 1, .inr (.inl (vp_updL f1 0 0)))), (h1, .inr (0, [.ref h2, v9, .int 2, v10, v11, v12, v13])), (h2, .inl (a0, 48, .inl f0)), (h4, .inr (6, [.int 0, v15, v16, v17, v18, .ref h5, v19, .int 2, v20, v21, v22, v23, v24, v25, v26, v27, v28, v29, v30, v31, v32, v33, v34, v35, v36, v37, v38])), (h5, .inl (a2, 48, .inl f2))] H := hP
  have hD : va_D A [(h0, .inr (5, [v0, .ref h1, v1, v2, v3, v4, v5, v6, v7, v8])), (h3, .inl (a1, 1, .inr (.inl (vp_updL f1 0 0)))), (h1, .inr (0, [.ref h2, v9, .int 2, v10, v11, v12, v13])), (h2, .inl (a0, 48, .inl f0)), (h4, .inr (6, [.int 0, v15, v16, v17, v18, .ref h5, v19, .int 2, v20, v21, v22, v23, v24, v25, v26, v27, v28, v29, v30, v31, v32, v33, v34, v35, v36, v37, v38])), (h5, .inl (a2, 48, .inl f2))] := hD
  have hK : va_K D vwCl [(a1, .long), (a0, .int), (a2, .int)] s := hK
  refine W.widen (k := 1010) (n := 8898) (Nat.le_of_ble_eq_true rfl) (Nat.le_of_ble_eq_true rfl) ?_
  refine lv_lstore (lv' := [(6, .long 0), (5, .int 0), (4, .int 0), (3, .ref h3), (2, .ref h4), (1, .ref h0), (0, .ref b)]) hx hb dL_law_510 hl (by decide) rfl (fun ls hl => ?_)
  refine lv_aload_n hx hb dL_law_512 rfl (lv_at hl 4 rfl) ?_
  refine cVi (n := 0) (As := []) (rest := []) (wr := [(h0, .inr (5, [v0, .ref h1, v1, v2, v3, v4, v5, v6, v7, v8])), (h3, .inl (a1, 1, .inr (.inl (vp_updL f1 0 0)))), (h1, .inr (0, [.ref h2, v9, .int 2, v10, v11, v12, v13])), (h2, .inl (a0, 48, .inl f0)), (h4, .inr (6, [.int 0, v15, v16, v17, v18, .ref h5, v19, .int 2, v20, v21, v22, v23, v24, v25, v26, v27, v28, v29, v30, v31, v32, v33, v34, v35, v36, v37, v38])), (h5, .inl (a2, 48, .inl f2))]) (tr := [(a1, .long), (a0, .int), (a2, .int)]) hx hb hml hown hg okN (cX6_thrown_1 l D h4 v15 v16 v17 v18 (.ref h5) v19 (.int 2) v20 v21 v22 v23 v24 v25 v26 v27 v28 v29 v30 v31 v32 v33 v34 v35 v36 v37 v38) (mwV k1301 k1302 k1303 k92 k1304) ⟨rfl, by decide, by decide, by decide +kernel⟩ ⟨rfl, rfl, (Nat.le_of_ble_eq_true rfl), (Nat.le_of_ble_eq_true rfl)⟩ hP hD hK hS xn [4] [] [0, 1, 2, 3, 4, 5] [] [0, 1, 2] rfl (by decide) rfl rfl (by decide) (by decide) rfl rfl (aNil hA hS) (aNil hA hS) 4 rfl rfl rfl hl.1 rfl (Nat.le_of_ble_eq_true rfl) dL_law_513 ⟨(Nat.le_of_ble_eq_true rfl), (Nat.le_of_ble_eq_true rfl)⟩ (fun u H locs hφ hP hD hK hS hk => ?_)
  have hP : va_P D vwCl [(h0, .inr (5, [v0, .ref h1, v1, v2, v3, v4, v5, v6, v7, v8])), (h3, .inl (a1, 1, .inr (.inl (vp_updL f1 0 0)))), (h1, .inr (0, [.ref h2, v9, .int 2, v10, v11, v12, v13])), (h2, .inl (a0, 48, .inl f0)), (h4, .inr (6, [.int 0, v15, v16, v17, v18, .ref h5, v19, .int 2, v20, v21, v22, v23, v24, v25, v26, v27, v28, v29, v30, v31, v32, v33, v34, v35, v36, v37, v38])), (h5, .inl (a2, 48, .inl f2))] H := hP
  have hD : va_D A [(h0, .inr (5, [v0, .ref h1, v1, v2, v3, v4, v5, v6, v7, v8])), (h3, .inl (a1, 1, .inr (.inl (vp_updL f1 0 0)))), (h1, .inr (0, [.ref h2, v9, .int 2, v10, v11, v12, v13])), (h2, .inl (a0, 48, .inl f0)), (h4, .inr (6, [.int 0, v15, v16, v17, v18, .ref h5, v19, .int 2, v20, v21, v22, v23, v24, v25, v26, v27, v28, v29, v30, v31, v32, v33, v34, v35, v36, v37, v38])), (h5, .inl (a2, 48, .inl f2))] := hD
  have hK : va_K D vwCl [(a1, .long), (a0, .int), (a2, .int)] s := hK
  refine W.widen (k := 1010) (n := 8898) (Nat.le_of_ble_eq_true rfl) (Nat.le_of_ble_eq_true rfl) ?_
  refine lv_iload hx hb dL_law_516 (lv_at hl 1 rfl) ?_
  refine lv_icmp_eq (tgt := 523) hx hb dL_law_518 (by decide) (fun _ => ?_) (fun c9 => absurd (by decide) c9)
  refine lv_iload hx hb dL_law_523 (lv_at hl 1 rfl) ?_
  refine lv_if_ne (tgt := 539) hx hb dL_law_525 (by decide) (fun c9 => absurd (by decide) c9) (fun _ => ?_)
  refine lv_aload_n hx hb dL_law_528 rfl (lv_at hl 3 rfl) ?_
  refine lv_iconst (v := 0) hx hb dL_law_529 (by decide) ?_
  refine aldL hx hb hK hP 1 0 rfl rfl 0 (by decide) (vin (by decide)) (v := 0) rfl dL_law_530 ?_
  refine lv_lload hx hb dL_law_531 (lv_at hl 0 rfl) ?_
  refine W.lcmp hx hb dL_law_533 ?_
  refine ti (0) (by decide) ?_
  refine lv_if_eq (tgt := 539) hx hb dL_law_534 (by decide) (fun _ => ?_) (fun c9 => absurd (by decide) c9)
  refine lv_goto (tgt := 2199) hx hb dL_law_539 (by decide) ?_
  refine W.widen (k := 3000) (n := 30000) (Nat.le_of_ble_eq_true rfl) (Nat.le_of_ble_eq_true rfl) ?_
  exact kk _ _ _ hS (lv_sub hl [2, 6] rfl)
set_option maxHeartbeats 4000000 in
set_option maxRecDepth 100000 in
theorem law_6_4 {p : Program} {e : Env} {s : State} {m : MethodId} {below : List Frame} {meth : Method} {c : Code} (l : Launch) (hlt : l.stackTraces = false) {b : Nat} {xs : Nat → Int32} (hx : p.tables.exec = Jvm.exec) (hb : c.code = cL_law) (hml : c.maxLocals = 9) (hown : s.vm.findClass RL = some m.cls) (hg : ∀ w ∈ GW, w.before #[Value.ref b] s = true) (hXs : va_X b 6 xs s s.heap) (hbl : b < s.heap.size) (D : va_G) {A : Nat → Prop} (hA : ∀ q, s.heap.size ≤ q → A q) (hbA : ¬ A b) (hX : XX A s s.heap) (Q : State → Prop) (h0 : Nat) (h1 : Nat) (h2 : Nat) (h3 : Nat) (h4 : Nat) (h5 : Nat) (v0 : Value) (v1 : Value) (v2 : Value) (v3 : Value) (v4 : Value) (v5 : Value) (v6 : Value) (v7 : Value) (v8 : Value) (v9 : Value) (v10 : Value) (v11 : Value) (v12 : Value) (v13 : Value) (f0 : Nat → Int32) (f1 : Nat → Int64) (v14 : Value) (v15 : Value) (v16 : Value) (v17 : Value) (v18 : Value) (v19 : Value) (v20 : Value) (v21 : Value) (v22 : Value) (v23 : Value) (v24 : Value) (v25 : Value) (v26 : Value) (v27 : Value) (v28 : Value) (v29 : Value) (v30 : Value) (v31 : Value) (v32 : Value) (v33 : Value) (v34 : Value) (v35 : Value) (v36 : Value) (v37 : Value) (v38 : Value) (f2 : Nat → Int32) (a0 : ClassId) (a1 : ClassId) (a2 : ClassId) (ef0_0 : f0 0 = 0) (ef2_0 : f2 0 = 0) (e1 : xs 1 = 0) (e2 : xs 2 = 1) {H : Heap} {locs : List Loc} {ls : Array Slot} (hP : va_P D vwCl [(h0, .inr (5, [v0, .ref h1, v1, v2, v3, v4, v5, v6, v7, v8])), (h1, .inr (0, [v9, .ref h2, .int 2, v10, v11, v12, v13])), (h2, .inl (a0, 48, .inl f0)), (h3, .inl (a1, 1, .inr (.inl f1))), (h4, .inr (6, [v14, v15, v16, v17, v18, v19, .ref h5, .int 2, v20, v21, v22, v23, v24, v25, v26, v27, v28, v29, v30, v31, v32, v33, v34, v35, v36, v37, v38])), (h5, .inl (a2, 48, .inl f2))] H) (hD : va_D A [(h0, .inr (5, [v0, .ref h1, v1, v2, v3, v4, v5, v6, v7, v8])), (h1, .inr (0, [v9, .ref h2, .int 2, v10, v11, v12, v13])), (h2, .inl (a0, 48, .inl f0)), (h3, .inl (a1, 1, .inr (.inl f1))), (h4, .inr (6, [v14, v15, v16, v17, v18, v19, .ref h5, .int 2, v20, v21, v22, v23, v24, v25, v26, v27, v28, v29, v30, v31, v32, v33, v34, v35, v36, v37, v38])), (h5, .inl (a2, 48, .inl f2))]) (hK : va_K D vwCl [(a0, .int), (a1, .long), (a2, .int)] s) (hS : va_S A s.heap H locs) (hl : lv_has ls 9 [(4, .int 0), (3, .ref h3), (2, .ref h4), (1, .ref h0), (0, .ref b)]) (kk : ∀ (H : Heap) (locs : List Loc) (ls : Array Slot), va_S A s.heap H locs → lv_has ls 9 [(4, .int 0), (0, .ref b)] → W p l e room_1 s m #[Value.ref b] below meth c H locs 3000 30000 Q (F0 m 2199 ls [])) : W p l e room_1 s m #[Value.ref b] below meth c H locs 1010 8898 Q (F0 m 475 ls []) := by
  refine lv_aload_n hx hb dL_law_475 rfl (lv_at hl 3 rfl) ?_
  refine lv_aload_n hx hb dL_law_476 rfl (lv_at hl 4 rfl) ?_
  refine lv_iload hx hb dL_law_477 (lv_at hl 0 rfl) ?_
  refine lv_iconst (v := 1) hx hb dL_law_479 (by decide) ?_
  refine lv_iadd hx hb dL_law_480 ?_
  refine ti (1) (by decide) ?_
  refine va_sld hx hb hXs hbl hbA hS (vin (by decide)) dL_law_481 ?_
  refine ti 0 e1 ?_
  refine lv_aload_n hx hb dL_law_482 rfl (lv_at hl 4 rfl) ?_
  refine lv_iload hx hb dL_law_483 (lv_at hl 0 rfl) ?_
  refine lv_iconst (v := 2) hx hb dL_law_485 (by decide) ?_
  refine lv_iadd hx hb dL_law_486 ?_
  refine ti (2) (by decide) ?_
  refine va_sld hx hb hXs hbl hbA hS (vin (by decide)) dL_law_487 ?_
  refine ti 1 e2 ?_
  refine lv_aload_n hx hb dL_law_488 rfl (lv_at hl 1 rfl) ?_
  refine cHi (n := 4) (As := [.ref h0, .int 0, .int 1, .ref h3]) (rest := []) (wr := [(h4, .inr (6, [v14, v15, v16, v17, v18, v19, .ref h5, .int 2, v20, v21, v22, v23, v24, v25, v26, v27, v28, v29, v30, v31, v32, v33, v34, v35, v36, v37, v38])), (h5, .inl (a2, 48, .inl f2))]) (tr := [(a2, .int)]) hx hb hml hown hg okN (cL_sample_620 l D h0 h3 h1 h2 v0 v1 v2 v3 v4 v5 v6 v7 v8 f1 v9 v10 v11 v12 v13 f0 a1 a0 ef0_0) (mwHS k854 k855 k83 k856) ⟨by decide, by decide, by decide +kernel⟩ ⟨rfl, rfl, (Nat.le_of_ble_eq_true rfl), (Nat.le_of_ble_eq_true rfl)⟩ hP hD hK hS xn [0, 3, 1, 2] [0, 3, 1, 2] [4, 5] [1, 0] [2] rfl (by decide) rfl rfl (by decide) (by decide) rfl rfl (va_free hD hS hA [0, 3, 1, 2] rfl) (va_free hD hS hA [0, 3, 1, 2] rfl) rfl hl.1 rfl (Nat.le_of_ble_eq_true rfl) dL_law_489 ⟨(Nat.le_of_ble_eq_true rfl), (Nat.le_of_ble_eq_true rfl)⟩ (fun u H locs hφ hP hD hK hS hk => ?_)
  have hP : va_P D vwCl [(h4, .inr (6, [v14, v15, v16, v17, v18, v19, .ref h5, .int 2, v20, v21, v22, v23, v24, v25, v26, v27, v28, v29, v30, v31, v32, v33, v34, v35, v36, v37, v38])), (h5, .inl (a2, 48, .inl f2)), (h0, .inr (5, [v0, .ref h1, v1, v2, v3, v4, v5, v6, v7, v8])), (h3, .inl (a1, 1, .inr (.inl (vp_updL f1 0 0)))), (h1, .inr (0, [v9, .ref h2, .int 2, v10, v11, v12, v13])), (h2, .inl (a0, 48, .inl f0))] H := hP
  have hD : va_D A [(h4, .inr (6, [v14, v15, v16, v17, v18, v19, .ref h5, .int 2, v20, v21, v22, v23, v24, v25, v26, v27, v28, v29, v30, v31, v32, v33, v34, v35, v36, v37, v38])), (h5, .inl (a2, 48, .inl f2)), (h0, .inr (5, [v0, .ref h1, v1, v2, v3, v4, v5, v6, v7, v8])), (h3, .inl (a1, 1, .inr (.inl (vp_updL f1 0 0)))), (h1, .inr (0, [v9, .ref h2, .int 2, v10, v11, v12, v13])), (h2, .inl (a0, 48, .inl f0))] := hD
  have hK : va_K D vwCl [(a2, .int), (a1, .long), (a0, .int)] s := hK
  refine W.widen (k := 1010) (n := 8898) (Nat.le_of_ble_eq_true rfl) (Nat.le_of_ble_eq_true rfl) ?_
  refine lv_istore (lv' := [(5, .int 0), (4, .int 0), (3, .ref h3), (2, .ref h4), (1, .ref h0), (0, .ref b)]) hx hb dL_law_492 hl (by decide) rfl (fun ls hl => ?_)
  refine lv_aload_n hx hb dL_law_494 rfl (lv_at hl 3 rfl) ?_
  refine lv_aload_n hx hb dL_law_495 rfl (lv_at hl 5 rfl) ?_
  refine lv_iload hx hb dL_law_496 (lv_at hl 1 rfl) ?_
  refine lv_iconst (v := 1) hx hb dL_law_498 (by decide) ?_
  refine lv_iadd hx hb dL_law_499 ?_
  refine ti (1) (by decide) ?_
  refine va_sld hx hb hXs hbl hbA hS (vin (by decide)) dL_law_500 ?_
  refine ti 0 e1 ?_
  refine lv_aload_n hx hb dL_law_501 rfl (lv_at hl 5 rfl) ?_
  refine lv_iload hx hb dL_law_502 (lv_at hl 1 rfl) ?_
  refine lv_iconst (v := 2) hx hb dL_law_504 (by decide) ?_
  refine lv_iadd hx hb dL_law_505 ?_
  refine ti (2) (by decide) ?_
  refine va_sld hx hb hXs hbl hbA hS (vin (by decide)) dL_law_506 ?_
  refine ti 1 e2 ?_
  refine cVl (n := 2) (As := [.int 0, .int 1]) (rest := []) (wr := [(h0, .inr (5, [v0, .ref h1, v1, v2, v3, v4, v5, v6, v7, v8])), (h3, .inl (a1, 1, .inr (.inl (vp_updL f1 0 0)))), (h1, .inr (0, [v9, .ref h2, .int 2, v10, v11, v12, v13])), (h2, .inl (a0, 48, .inl f0))]) (tr := [(a1, .long), (a0, .int)]) hx hb hml hown hg okN (cX6_sample_68 l D h4 h5 v14 v15 v16 v17 v18 v19 v20 v21 v22 v23 v24 v25 v26 v27 v28 v29 v30 v31 v32 v33 v34 v35 v36 v37 v38 f2 a2 ef2_0) (mwV k1436 k1437 k1438 k92 k1439) ⟨rfl, by decide, by decide, by decide +kernel⟩ ⟨rfl, rfl, (Nat.le_of_ble_eq_true rfl), (Nat.le_of_ble_eq_true rfl)⟩ hP hD hK hS xn [0, 1] [0, 1] [2, 3, 4, 5] [0] [1, 2] rfl (by decide) rfl rfl (by decide) (by decide) rfl rfl (va_free hD hS hA [0, 1] rfl) (va_free hD hS hA [0, 1] rfl) 0 rfl rfl rfl hl.1 rfl (Nat.le_of_ble_eq_true rfl) dL_law_507 ⟨(Nat.le_of_ble_eq_true rfl), (Nat.le_of_ble_eq_true rfl)⟩ (fun u H locs hφ hP hD hK hS hk => ?_)
  have hP : va_P D vwCl [(h0, .inr (5, [v0, .ref h1, v1, v2, v3, v4, v5, v6, v7, v8])), (h3, .inl (a1, 1, .inr (.inl (vp_updL f1 0 0)))), (h1, .inr (0, [v9, .ref h2, .int 2, v10, v11, v12, v13])), (h2, .inl (a0, 48, .inl f0)), (h4, .inr (6, [.int 0, v15, v16, v17, v18, v19, .ref h5, .int 2, v20, v21, v22, v23, v24, v25, v26, v27, v28, v29, v30, v31, v32, v33, v34, v35, v36, v37, v38])), (h5, .inl (a2, 48, .inl f2))] H := hP
  have hD : va_D A [(h0, .inr (5, [v0, .ref h1, v1, v2, v3, v4, v5, v6, v7, v8])), (h3, .inl (a1, 1, .inr (.inl (vp_updL f1 0 0)))), (h1, .inr (0, [v9, .ref h2, .int 2, v10, v11, v12, v13])), (h2, .inl (a0, 48, .inl f0)), (h4, .inr (6, [.int 0, v15, v16, v17, v18, v19, .ref h5, .int 2, v20, v21, v22, v23, v24, v25, v26, v27, v28, v29, v30, v31, v32, v33, v34, v35, v36, v37, v38])), (h5, .inl (a2, 48, .inl f2))] := hD
  have hK : va_K D vwCl [(a1, .long), (a0, .int), (a2, .int)] s := hK
  refine W.widen (k := 1010) (n := 8898) (Nat.le_of_ble_eq_true rfl) (Nat.le_of_ble_eq_true rfl) ?_
  refine lv_lstore (lv' := [(6, .long 0), (5, .int 0), (4, .int 0), (3, .ref h3), (2, .ref h4), (1, .ref h0), (0, .ref b)]) hx hb dL_law_510 hl (by decide) rfl (fun ls hl => ?_)
  refine lv_aload_n hx hb dL_law_512 rfl (lv_at hl 4 rfl) ?_
  refine cVi (n := 0) (As := []) (rest := []) (wr := [(h0, .inr (5, [v0, .ref h1, v1, v2, v3, v4, v5, v6, v7, v8])), (h3, .inl (a1, 1, .inr (.inl (vp_updL f1 0 0)))), (h1, .inr (0, [v9, .ref h2, .int 2, v10, v11, v12, v13])), (h2, .inl (a0, 48, .inl f0)), (h4, .inr (6, [.int 0, v15, v16, v17, v18, v19, .ref h5, .int 2, v20, v21, v22, v23, v24, v25, v26, v27, v28, v29, v30, v31, v32, v33, v34, v35, v36, v37, v38])), (h5, .inl (a2, 48, .inl f2))]) (tr := [(a1, .long), (a0, .int), (a2, .int)]) hx hb hml hown hg okN (cX6_thrown_1 l D h4 v15 v16 v17 v18 v19 (.ref h5) (.int 2) v20 v21 v22 v23 v24 v25 v26 v27 v28 v29 v30 v31 v32 v33 v34 v35 v36 v37 v38) (mwV k1301 k1302 k1303 k92 k1304) ⟨rfl, by decide, by decide, by decide +kernel⟩ ⟨rfl, rfl, (Nat.le_of_ble_eq_true rfl), (Nat.le_of_ble_eq_true rfl)⟩ hP hD hK hS xn [4] [] [0, 1, 2, 3, 4, 5] [] [0, 1, 2] rfl (by decide) rfl rfl (by decide) (by decide) rfl rfl (aNil hA hS) (aNil hA hS) 4 rfl rfl rfl hl.1 rfl (Nat.le_of_ble_eq_true rfl) dL_law_513 ⟨(Nat.le_of_ble_eq_true rfl), (Nat.le_of_ble_eq_true rfl)⟩ (fun u H locs hφ hP hD hK hS hk => ?_)
  have hP : va_P D vwCl [(h0, .inr (5, [v0, .ref h1, v1, v2, v3, v4, v5, v6, v7, v8])), (h3, .inl (a1, 1, .inr (.inl (vp_updL f1 0 0)))), (h1, .inr (0, [v9, .ref h2, .int 2, v10, v11, v12, v13])), (h2, .inl (a0, 48, .inl f0)), (h4, .inr (6, [.int 0, v15, v16, v17, v18, v19, .ref h5, .int 2, v20, v21, v22, v23, v24, v25, v26, v27, v28, v29, v30, v31, v32, v33, v34, v35, v36, v37, v38])), (h5, .inl (a2, 48, .inl f2))] H := hP
  have hD : va_D A [(h0, .inr (5, [v0, .ref h1, v1, v2, v3, v4, v5, v6, v7, v8])), (h3, .inl (a1, 1, .inr (.inl (vp_updL f1 0 0)))), (h1, .inr (0, [v9, .ref h2, .int 2, v10, v11, v12, v13])), (h2, .inl (a0, 48, .inl f0)), (h4, .inr (6, [.int 0, v15, v16, v17, v18, v19, .ref h5, .int 2, v20, v21, v22, v23, v24, v25, v26, v27, v28, v29, v30, v31, v32, v33, v34, v35, v36, v37, v38])), (h5, .inl (a2, 48, .inl f2))] := hD
  have hK : va_K D vwCl [(a1, .long), (a0, .int), (a2, .int)] s := hK
  refine W.widen (k := 1010) (n := 8898) (Nat.le_of_ble_eq_true rfl) (Nat.le_of_ble_eq_true rfl) ?_
  refine lv_iload hx hb dL_law_516 (lv_at hl 1 rfl) ?_
  refine lv_icmp_eq (tgt := 523) hx hb dL_law_518 (by decide) (fun _ => ?_) (fun c9 => absurd (by decide) c9)
  refine lv_iload hx hb dL_law_523 (lv_at hl 1 rfl) ?_
  refine lv_if_ne (tgt := 539) hx hb dL_law_525 (by decide) (fun c9 => absurd (by decide) c9) (fun _ => ?_)
  refine lv_aload_n hx hb dL_law_528 rfl (lv_at hl 3 rfl) ?_
  refine lv_iconst (v := 0) hx hb dL_law_529 (by decide) ?_
  refine aldL hx hb hK hP 1 0 rfl rfl 0 (by decide) (vin (by decide)) (v := 0) rfl dL_law_530 ?_
  refine lv_lload hx hb dL_law_531 (lv_at hl 0 rfl) ?_
  refine W.lcmp hx hb dL_law_533 ?_
  refine ti (0) (by decide) ?_
  refine lv_if_eq (tgt := 539) hx hb dL_law_534 (by decide) (fun _ => ?_) (fun c9 => absurd (by decide) c9)
  refine lv_goto (tgt := 2199) hx hb dL_law_539 (by decide) ?_
  refine W.widen (k := 3000) (n := 30000) (Nat.le_of_ble_eq_true rfl) (Nat.le_of_ble_eq_true rfl) ?_
  exact kk _ _ _ hS (lv_sub hl [2, 6] rfl)
set_option maxHeartbeats 4000000 in
set_option maxRecDepth 100000 in
theorem law_6_5 {p : Program} {e : Env} {s : State} {m : MethodId} {below : List Frame} {meth : Method} {c : Code} (l : Launch) (hlt : l.stackTraces = false) {b : Nat} {xs : Nat → Int32} (hx : p.tables.exec = Jvm.exec) (hb : c.code = cL_law) (hml : c.maxLocals = 9) (hown : s.vm.findClass RL = some m.cls) (hg : ∀ w ∈ GW, w.before #[Value.ref b] s = true) (hXs : va_X b 6 xs s s.heap) (hbl : b < s.heap.size) (D : va_G) {A : Nat → Prop} (hA : ∀ q, s.heap.size ≤ q → A q) (hbA : ¬ A b) (hX : XX A s s.heap) (Q : State → Prop) (h0 : Nat) (h1 : Nat) (h2 : Nat) (h3 : Nat) (h4 : Nat) (h5 : Nat) (h6 : Nat) (v0 : Value) (v1 : Value) (v2 : Value) (v3 : Value) (v4 : Value) (v5 : Value) (v6 : Value) (v7 : Value) (v8 : Value) (v9 : Value) (v10 : Value) (v11 : Value) (v12 : Value) (v13 : Value) (v14 : Value) (v15 : Value) (v16 : Value) (v17 : Value) (v18 : Value) (v19 : Value) (v20 : Value) (v21 : Value) (v22 : Value) (v23 : Value) (v24 : Value) (v25 : Value) (f0 : Nat → Int32) (f1 : Nat → Int64) (v26 : Value) (v27 : Value) (v28 : Value) (v29 : Value) (v30 : Value) (v31 : Value) (v32 : Value) (v33 : Value) (v34 : Value) (v35 : Value) (v36 : Value) (v37 : Value) (v38 : Value) (v39 : Value) (v40 : Value) (v41 : Value) (v42 : Value) (v43 : Value) (v44 : Value) (v45 : Value) (v46 : Value) (v47 : Value) (v48 : Value) (v49 : Value) (v50 : Value) (f2 : Nat → Int64) (a0 : ClassId) (a1 : ClassId) (a2 : ClassId) (ef0_0 : f0 0 = (-1)) (ef2_101 : f2 101 = (-1)) (e1 : xs 1 = 0) (e2 : xs 2 = 2) {H : Heap} {locs : List Loc} {ls : Array Slot} (hP : va_P D vwCl [(h0, .inr (5, [v0, .ref h1, v1, .ref h2, v2, v3, v4, v5, v6, v7])), (h1, .inr (0, [v8, v9, .int 2, v10, v11, v12, v13])), (h2, .inr (1, [v14, v15, v16, .ref h3, v17, v18, v19, v20, v21, v22, v23, v24, v25])), (h3, .inl (a0, 48, .inl f0)), (h4, .inl (a1, 1, .inr (.inl f1))), (h5, .inr (6, [v26, .ref h6, v27, v28, v29, v30, v31, .int 2, v32, v33, v34, v35, v36, v37, v38, v39, v40, v41, v42, v43, v44, v45, v46, v47, v48, v49, v50])), (h6, .inl (a2, 609, .inr (.inl f2)))] H) (hD : va_D A [(h0, .inr (5, [v0, .ref h1, v1, .ref h2, v2, v3, v4, v5, v6, v7])), (h1, .inr (0, [v8, v9, .int 2, v10, v11, v12, v13])), (h2, .inr (1, [v14, v15, v16, .ref h3, v17, v18, v19, v20, v21, v22, v23, v24, v25])), (h3, .inl (a0, 48, .inl f0)), (h4, .inl (a1, 1, .inr (.inl f1))), (h5, .inr (6, [v26, .ref h6, v27, v28, v29, v30, v31, .int 2, v32, v33, v34, v35, v36, v37, v38, v39, v40, v41, v42, v43, v44, v45, v46, v47, v48, v49, v50])), (h6, .inl (a2, 609, .inr (.inl f2)))]) (hK : va_K D vwCl [(a0, .int), (a1, .long), (a2, .long)] s) (hS : va_S A s.heap H locs) (hl : lv_has ls 9 [(4, .int 0), (3, .ref h4), (2, .ref h5), (1, .ref h0), (0, .ref b)]) (kk : ∀ (H : Heap) (locs : List Loc) (ls : Array Slot), va_S A s.heap H locs → lv_has ls 9 [(4, .int 0), (0, .ref b)] → W p l e room_1 s m #[Value.ref b] below meth c H locs 3000 30000 Q (F0 m 2199 ls [])) : W p l e room_1 s m #[Value.ref b] below meth c H locs 1010 8898 Q (F0 m 475 ls []) := by
  refine lv_aload_n hx hb dL_law_475 rfl (lv_at hl 3 rfl) ?_
  refine lv_aload_n hx hb dL_law_476 rfl (lv_at hl 4 rfl) ?_
  refine lv_iload hx hb dL_law_477 (lv_at hl 0 rfl) ?_
  refine lv_iconst (v := 1) hx hb dL_law_479 (by decide) ?_
  refine lv_iadd hx hb dL_law_480 ?_
  refine ti (1) (by decide) ?_
  refine va_sld hx hb hXs hbl hbA hS (vin (by decide)) dL_law_481 ?_
  refine ti 0 e1 ?_
  refine lv_aload_n hx hb dL_law_482 rfl (lv_at hl 4 rfl) ?_
  refine lv_iload hx hb dL_law_483 (lv_at hl 0 rfl) ?_
  refine lv_iconst (v := 2) hx hb dL_law_485 (by decide) ?_
  refine lv_iadd hx hb dL_law_486 ?_
  refine ti (2) (by decide) ?_
  refine va_sld hx hb hXs hbl hbA hS (vin (by decide)) dL_law_487 ?_
  refine ti 2 e2 ?_
  refine lv_aload_n hx hb dL_law_488 rfl (lv_at hl 1 rfl) ?_
  refine cHi (n := 4) (As := [.ref h0, .int 0, .int 2, .ref h4]) (rest := []) (wr := [(h5, .inr (6, [v26, .ref h6, v27, v28, v29, v30, v31, .int 2, v32, v33, v34, v35, v36, v37, v38, v39, v40, v41, v42, v43, v44, v45, v46, v47, v48, v49, v50])), (h6, .inl (a2, 609, .inr (.inl f2)))]) (tr := [(a2, .long)]) hx hb hml hown hg okN (cL_sample_621 l D h0 h4 h1 h2 h3 v0 v1 v2 v3 v4 v5 v6 v7 f1 v8 v9 v10 v11 v12 v13 v14 v15 v16 v17 v18 v19 v20 v21 v22 v23 v24 v25 f0 a1 a0 ef0_0) (mwHS k854 k855 k83 k856) ⟨by decide, by decide, by decide +kernel⟩ ⟨rfl, rfl, (Nat.le_of_ble_eq_true rfl), (Nat.le_of_ble_eq_true rfl)⟩ hP hD hK hS xn [0, 4, 1, 2, 3] [0, 4, 1, 2, 3] [5, 6] [1, 0] [2] rfl (by decide) rfl rfl (by decide) (by decide) rfl rfl (va_free hD hS hA [0, 4, 1, 2, 3] rfl) (va_free hD hS hA [0, 4, 1, 2, 3] rfl) rfl hl.1 rfl (Nat.le_of_ble_eq_true rfl) dL_law_489 ⟨(Nat.le_of_ble_eq_true rfl), (Nat.le_of_ble_eq_true rfl)⟩ (fun u H locs hφ hP hD hK hS hk => ?_)
  have hP : va_P D vwCl [(h5, .inr (6, [v26, .ref h6, v27, v28, v29, v30, v31, .int 2, v32, v33, v34, v35, v36, v37, v38, v39, v40, v41, v42, v43, v44, v45, v46, v47, v48, v49, v50])), (h6, .inl (a2, 609, .inr (.inl f2))), (h0, .inr (5, [v0, .ref h1, v1, .ref h2, v2, v3, v4, v5, v6, v7])), (h4, .inl (a1, 1, .inr (.inl (vp_updL f1 0 1)))), (h1, .inr (0, [v8, v9, .int 2, v10, v11, v12, v13])), (h2, .inr (1, [v14, v15, v16, .ref h3, v17, v18, v19, v20, v21, v22, v23, v24, v25])), (h3, .inl (a0, 48, .inl f0))] H := hP
  have hD : va_D A [(h5, .inr (6, [v26, .ref h6, v27, v28, v29, v30, v31, .int 2, v32, v33, v34, v35, v36, v37, v38, v39, v40, v41, v42, v43, v44, v45, v46, v47, v48, v49, v50])), (h6, .inl (a2, 609, .inr (.inl f2))), (h0, .inr (5, [v0, .ref h1, v1, .ref h2, v2, v3, v4, v5, v6, v7])), (h4, .inl (a1, 1, .inr (.inl (vp_updL f1 0 1)))), (h1, .inr (0, [v8, v9, .int 2, v10, v11, v12, v13])), (h2, .inr (1, [v14, v15, v16, .ref h3, v17, v18, v19, v20, v21, v22, v23, v24, v25])), (h3, .inl (a0, 48, .inl f0))] := hD
  have hK : va_K D vwCl [(a2, .long), (a1, .long), (a0, .int)] s := hK
  refine W.widen (k := 1010) (n := 8898) (Nat.le_of_ble_eq_true rfl) (Nat.le_of_ble_eq_true rfl) ?_
  refine lv_istore (lv' := [(5, .int 0), (4, .int 0), (3, .ref h4), (2, .ref h5), (1, .ref h0), (0, .ref b)]) hx hb dL_law_492 hl (by decide) rfl (fun ls hl => ?_)
  refine lv_aload_n hx hb dL_law_494 rfl (lv_at hl 3 rfl) ?_
  refine lv_aload_n hx hb dL_law_495 rfl (lv_at hl 5 rfl) ?_
  refine lv_iload hx hb dL_law_496 (lv_at hl 1 rfl) ?_
  refine lv_iconst (v := 1) hx hb dL_law_498 (by decide) ?_
  refine lv_iadd hx hb dL_law_499 ?_
  refine ti (1) (by decide) ?_
  refine va_sld hx hb hXs hbl hbA hS (vin (by decide)) dL_law_500 ?_
  refine ti 0 e1 ?_
  refine lv_aload_n hx hb dL_law_501 rfl (lv_at hl 5 rfl) ?_
  refine lv_iload hx hb dL_law_502 (lv_at hl 1 rfl) ?_
  refine lv_iconst (v := 2) hx hb dL_law_504 (by decide) ?_
  refine lv_iadd hx hb dL_law_505 ?_
  refine ti (2) (by decide) ?_
  refine va_sld hx hb hXs hbl hbA hS (vin (by decide)) dL_law_506 ?_
  refine ti 2 e2 ?_
  refine cVl (n := 2) (As := [.int 0, .int 2]) (rest := []) (wr := [(h0, .inr (5, [v0, .ref h1, v1, .ref h2, v2, v3, v4, v5, v6, v7])), (h4, .inl (a1, 1, .inr (.inl (vp_updL f1 0 1)))), (h1, .inr (0, [v8, v9, .int 2, v10, v11, v12, v13])), (h2, .inr (1, [v14, v15, v16, .ref h3, v17, v18, v19, v20, v21, v22, v23, v24, v25])), (h3, .inl (a0, 48, .inl f0))]) (tr := [(a1, .long), (a0, .int)]) hx hb hml hown hg okN (cX6_sample_70 l D h5 h6 v26 v27 v28 v29 v30 v31 v32 v33 v34 v35 v36 v37 v38 v39 v40 v41 v42 v43 v44 v45 v46 v47 v48 v49 v50 f2 a2 ef2_101) (mwV k1436 k1437 k1438 k92 k1439) ⟨rfl, by decide, by decide, by decide +kernel⟩ ⟨rfl, rfl, (Nat.le_of_ble_eq_true rfl), (Nat.le_of_ble_eq_true rfl)⟩ hP hD hK hS xn [0, 1] [0, 1] [2, 3, 4, 5, 6] [0] [1, 2] rfl (by decide) rfl rfl (by decide) (by decide) rfl rfl (va_free hD hS hA [0, 1] rfl) (va_free hD hS hA [0, 1] rfl) 0 rfl rfl rfl hl.1 rfl (Nat.le_of_ble_eq_true rfl) dL_law_507 ⟨(Nat.le_of_ble_eq_true rfl), (Nat.le_of_ble_eq_true rfl)⟩ (fun u H locs hφ hP hD hK hS hk => ?_)
  have hP : va_P D vwCl [(h0, .inr (5, [v0, .ref h1, v1, .ref h2, v2, v3, v4, v5, v6, v7])), (h4, .inl (a1, 1, .inr (.inl (vp_updL f1 0 1)))), (h1, .inr (0, [v8, v9, .int 2, v10, v11, v12, v13])), (h2, .inr (1, [v14, v15, v16, .ref h3, v17, v18, v19, v20, v21, v22, v23, v24, v25])), (h3, .inl (a0, 48, .inl f0)), (h5, .inr (6, [.int 0, .ref h6, v27, v28, v29, v30, v31, .int 2, v32, v33, v34, v35, v36, v37, v38, v39, v40, v41, v42, v43, v44, v45, v46, v47, v48, v49, v50])), (h6, .inl (a2, 609, .inr (.inl f2)))] H := hP
  have hD : va_D A [(h0, .inr (5, [v0, .ref h1, v1, .ref h2, v2, v3, v4, v5, v6, v7])), (h4, .inl (a1, 1, .inr (.inl (vp_updL f1 0 1)))), (h1, .inr (0, [v8, v9, .int 2, v10, v11, v12, v13])), (h2, .inr (1, [v14, v15, v16, .ref h3, v17, v18, v19, v20, v21, v22, v23, v24, v25])), (h3, .inl (a0, 48, .inl f0)), (h5, .inr (6, [.int 0, .ref h6, v27, v28, v29, v30, v31, .int 2, v32, v33, v34, v35, v36, v37, v38, v39, v40, v41, v42, v43, v44, v45, v46, v47, v48, v49, v50])), (h6, .inl (a2, 609, .inr (.inl f2)))] := hD
  have hK : va_K D vwCl [(a1, .long), (a0, .int), (a2, .long)] s := hK
  refine W.widen (k := 1010) (n := 8898) (Nat.le_of_ble_eq_true rfl) (Nat.le_of_ble_eq_true rfl) ?_
  refine lv_lstore (lv' := [(6, .long 1), (5, .int 0), (4, .int 0), (3, .ref h4), (2, .ref h5), (1, .ref h0), (0, .ref b)]) hx hb dL_law_510 hl (by decide) rfl (fun ls hl => ?_)
  refine lv_aload_n hx hb dL_law_512 rfl (lv_at hl 4 rfl) ?_
  refine cVi (n := 0) (As := []) (rest := []) (wr := [(h0, .inr (5, [v0, .ref h1, v1, .ref h2, v2, v3, v4, v5, v6, v7])), (h4, .inl (a1, 1, .inr (.inl (vp_updL f1 0 1)))), (h1, .inr (0, [v8, v9, .int 2, v10, v11, v12, v13])), (h2, .inr (1, [v14, v15, v16, .ref h3, v17, v18, v19, v20, v21, v22, v23, v24, v25])), (h3, .inl (a0, 48, .inl f0)), (h5, .inr (6, [.int 0, .ref h6, v27, v28, v29, v30, v31, .int 2, v32, v33, v34, v35, v36, v37, v38, v39, v40, v41, v42, v43, v44, v45, v46, v47, v48, v49, v50])), (h6, .inl (a2, 609, .inr (.inl f2)))]) (tr := [(a1, .long), (a0, .int), (a2, .long)]) hx hb hml hown hg okN (cX6_thrown_1 l D h5 (.ref h6) v27 v28 v29 v30 v31 (.int 2) v32 v33 v34 v35 v36 v37 v38 v39 v40 v41 v42 v43 v44 v45 v46 v47 v48 v49 v50) (mwV k1301 k1302 k1303 k92 k1304) ⟨rfl, by decide, by decide, by decide +kernel⟩ ⟨rfl, rfl, (Nat.le_of_ble_eq_true rfl), (Nat.le_of_ble_eq_true rfl)⟩ hP hD hK hS xn [5] [] [0, 1, 2, 3, 4, 5, 6] [] [0, 1, 2] rfl (by decide) rfl rfl (by decide) (by decide) rfl rfl (aNil hA hS) (aNil hA hS) 5 rfl rfl rfl hl.1 rfl (Nat.le_of_ble_eq_true rfl) dL_law_513 ⟨(Nat.le_of_ble_eq_true rfl), (Nat.le_of_ble_eq_true rfl)⟩ (fun u H locs hφ hP hD hK hS hk => ?_)
  have hP : va_P D vwCl [(h0, .inr (5, [v0, .ref h1, v1, .ref h2, v2, v3, v4, v5, v6, v7])), (h4, .inl (a1, 1, .inr (.inl (vp_updL f1 0 1)))), (h1, .inr (0, [v8, v9, .int 2, v10, v11, v12, v13])), (h2, .inr (1, [v14, v15, v16, .ref h3, v17, v18, v19, v20, v21, v22, v23, v24, v25])), (h3, .inl (a0, 48, .inl f0)), (h5, .inr (6, [.int 0, .ref h6, v27, v28, v29, v30, v31, .int 2, v32, v33, v34, v35, v36, v37, v38, v39, v40, v41, v42, v43, v44, v45, v46, v47, v48, v49, v50])), (h6, .inl (a2, 609, .inr (.inl f2)))] H := hP
  have hD : va_D A [(h0, .inr (5, [v0, .ref h1, v1, .ref h2, v2, v3, v4, v5, v6, v7])), (h4, .inl (a1, 1, .inr (.inl (vp_updL f1 0 1)))), (h1, .inr (0, [v8, v9, .int 2, v10, v11, v12, v13])), (h2, .inr (1, [v14, v15, v16, .ref h3, v17, v18, v19, v20, v21, v22, v23, v24, v25])), (h3, .inl (a0, 48, .inl f0)), (h5, .inr (6, [.int 0, .ref h6, v27, v28, v29, v30, v31, .int 2, v32, v33, v34, v35, v36, v37, v38, v39, v40, v41, v42, v43, v44, v45, v46, v47, v48, v49, v50])), (h6, .inl (a2, 609, .inr (.inl f2)))] := hD
  have hK : va_K D vwCl [(a1, .long), (a0, .int), (a2, .long)] s := hK
  refine W.widen (k := 1010) (n := 8898) (Nat.le_of_ble_eq_true rfl) (Nat.le_of_ble_eq_true rfl) ?_
  refine lv_iload hx hb dL_law_516 (lv_at hl 1 rfl) ?_
  refine lv_icmp_eq (tgt := 523) hx hb dL_law_518 (by decide) (fun _ => ?_) (fun c9 => absurd (by decide) c9)
  refine lv_iload hx hb dL_law_523 (lv_at hl 1 rfl) ?_
  refine lv_if_ne (tgt := 539) hx hb dL_law_525 (by decide) (fun c9 => absurd (by decide) c9) (fun _ => ?_)
  refine lv_aload_n hx hb dL_law_528 rfl (lv_at hl 3 rfl) ?_
  refine lv_iconst (v := 0) hx hb dL_law_529 (by decide) ?_
  refine aldL hx hb hK hP 1 0 rfl rfl 0 (by decide) (vin (by decide)) (v := 1) rfl dL_law_530 ?_
  refine lv_lload hx hb dL_law_531 (lv_at hl 0 rfl) ?_
  refine W.lcmp hx hb dL_law_533 ?_
  refine ti (0) (by decide) ?_
  refine lv_if_eq (tgt := 539) hx hb dL_law_534 (by decide) (fun _ => ?_) (fun c9 => absurd (by decide) c9)
  refine lv_goto (tgt := 2199) hx hb dL_law_539 (by decide) ?_
  refine W.widen (k := 3000) (n := 30000) (Nat.le_of_ble_eq_true rfl) (Nat.le_of_ble_eq_true rfl) ?_
  exact kk _ _ _ hS (lv_sub hl [2, 6] rfl)
set_option maxHeartbeats 4000000 in
set_option maxRecDepth 100000 in
theorem law_6_6 {p : Program} {e : Env} {s : State} {m : MethodId} {below : List Frame} {meth : Method} {c : Code} (l : Launch) (hlt : l.stackTraces = false) {b : Nat} {xs : Nat → Int32} (hx : p.tables.exec = Jvm.exec) (hb : c.code = cL_law) (hml : c.maxLocals = 9) (hown : s.vm.findClass RL = some m.cls) (hg : ∀ w ∈ GW, w.before #[Value.ref b] s = true) (hXs : va_X b 6 xs s s.heap) (hbl : b < s.heap.size) (D : va_G) {A : Nat → Prop} (hA : ∀ q, s.heap.size ≤ q → A q) (hbA : ¬ A b) (hX : XX A s s.heap) (Q : State → Prop) (h0 : Nat) (h1 : Nat) (h2 : Nat) (h3 : Nat) (h4 : Nat) (h5 : Nat) (h6 : Nat) (h7 : Nat) (h8 : Nat) (v0 : Value) (v1 : Value) (v2 : Value) (v3 : Value) (v4 : Value) (v5 : Value) (v6 : Value) (v7 : Value) (v8 : Value) (v9 : Value) (v10 : Value) (v11 : Value) (v12 : Value) (v13 : Value) (v14 : Value) (v15 : Value) (v16 : Value) (v17 : Value) (v18 : Value) (v19 : Value) (v20 : Value) (v21 : Value) (v22 : Value) (v23 : Value) (v24 : Value) (f0 : Nat → Int32) (f1 : Nat → Option Nat) (v25 : Value) (f2 : Nat → Int64) (v26 : Value) (v27 : Value) (v28 : Value) (v29 : Value) (v30 : Value) (v31 : Value) (v32 : Value) (v33 : Value) (v34 : Value) (v35 : Value) (v36 : Value) (v37 : Value) (v38 : Value) (v39 : Value) (v40 : Value) (v41 : Value) (v42 : Value) (v43 : Value) (v44 : Value) (v45 : Value) (v46 : Value) (v47 : Value) (v48 : Value) (v49 : Value) (v50 : Value) (f3 : Nat → Int64) (a0 : ClassId) (a1 : ClassId) (a2 : ClassId) (a3 : ClassId) (ef0_0 : f0 0 = (-1)) (ef1_0 : f1 0 = some h5) (ef3_5 : f3 5 = 0) (ef3_101 : f3 101 = (-1)) (e1 : xs 1 = 0) (e2 : xs 2 = 3) {H : Heap} {locs : List Loc} {ls : Array Slot} (hP : va_P D vwCl [(h0, .inr (5, [v0, .ref h1, v1, .ref h2, v2, v3, v4, v5, v6, v7])), (h1, .inr (0, [v8, v9, .int 2, v10, v11, v12, v13])), (h2, .inr (1, [v14, .ref h4, v15, .ref h3, v16, v17, v18, v19, v20, v21, v22, v23, v24])), (h3, .inl (a0, 48, .inl f0)), (h4, .inl (a1, 48, .inr (.inr (.inr (.inr f1))))), (h5, .inr (4, [v25, .int 0, .int 0])), (h6, .inl (a2, 1, .inr (.inl f2))), (h7, .inr (6, [v26, .ref h8, v27, v28, v29, v30, v31, .int 2, v32, v33, v34, v35, v36, v37, v38, v39, v40, v41, v42, v43, v44, v45, v46, v47, v48, v49, v50])), (h8, .inl (a3, 609, .inr (.inl f3)))] H) (hD : va_D A [(h0, .inr (5, [v0, .ref h1, v1, .ref h2, v2, v3, v4, v5, v6, v7])), (h1, .inr (0, [v8, v9, .int 2, v10, v11, v12, v13])), (h2, .inr (1, [v14, .ref h4, v15, .ref h3, v16, v17, v18, v19, v20, v21, v22, v23, v24])), (h3, .inl (a0, 48, .inl f0)), (h4, .inl (a1, 48, .inr (.inr (.inr (.inr f1))))), (h5, .inr (4, [v25, .int 0, .int 0])), (h6, .inl (a2, 1, .inr (.inl f2))), (h7, .inr (6, [v26, .ref h8, v27, v28, v29, v30, v31, .int 2, v32, v33, v34, v35, v36, v37, v38, v39, v40, v41, v42, v43, v44, v45, v46, v47, v48, v49, v50])), (h8, .inl (a3, 609, .inr (.inl f3)))]) (hK : va_K D vwCl [(a0, .int), (a1, .object "LiftingSignal$Whole"), (a2, .long), (a3, .long)] s) (hS : va_S A s.heap H locs) (hl : lv_has ls 9 [(4, .int 0), (3, .ref h6), (2, .ref h7), (1, .ref h0), (0, .ref b)]) (kk : ∀ (H : Heap) (locs : List Loc) (ls : Array Slot), va_S A s.heap H locs → lv_has ls 9 [(4, .int 0), (0, .ref b)] → W p l e room_1 s m #[Value.ref b] below meth c H locs 3000 30000 Q (F0 m 2199 ls [])) : W p l e room_1 s m #[Value.ref b] below meth c H locs 1010 8898 Q (F0 m 475 ls []) := by
  refine lv_aload_n hx hb dL_law_475 rfl (lv_at hl 3 rfl) ?_
  refine lv_aload_n hx hb dL_law_476 rfl (lv_at hl 4 rfl) ?_
  refine lv_iload hx hb dL_law_477 (lv_at hl 0 rfl) ?_
  refine lv_iconst (v := 1) hx hb dL_law_479 (by decide) ?_
  refine lv_iadd hx hb dL_law_480 ?_
  refine ti (1) (by decide) ?_
  refine va_sld hx hb hXs hbl hbA hS (vin (by decide)) dL_law_481 ?_
  refine ti 0 e1 ?_
  refine lv_aload_n hx hb dL_law_482 rfl (lv_at hl 4 rfl) ?_
  refine lv_iload hx hb dL_law_483 (lv_at hl 0 rfl) ?_
  refine lv_iconst (v := 2) hx hb dL_law_485 (by decide) ?_
  refine lv_iadd hx hb dL_law_486 ?_
  refine ti (2) (by decide) ?_
  refine va_sld hx hb hXs hbl hbA hS (vin (by decide)) dL_law_487 ?_
  refine ti 3 e2 ?_
  refine lv_aload_n hx hb dL_law_488 rfl (lv_at hl 1 rfl) ?_
  refine cHi (n := 4) (As := [.ref h0, .int 0, .int 3, .ref h6]) (rest := []) (wr := [(h7, .inr (6, [v26, .ref h8, v27, v28, v29, v30, v31, .int 2, v32, v33, v34, v35, v36, v37, v38, v39, v40, v41, v42, v43, v44, v45, v46, v47, v48, v49, v50])), (h8, .inl (a3, 609, .inr (.inl f3)))]) (tr := [(a3, .long)]) hx hb hml hown hg okN (cL_sample_622 l D h0 h6 h1 h2 h3 h4 h5 v0 v1 v2 v3 v4 v5 v6 v7 f2 v8 v9 v10 v11 v12 v13 v14 v15 v16 v17 v18 v19 v20 v21 v22 v23 v24 f0 f1 v25 a2 a0 a1 ef0_0 ef1_0) (mwHS k854 k855 k83 k856) ⟨by decide, by decide, by decide +kernel⟩ ⟨rfl, rfl, (Nat.le_of_ble_eq_true rfl), (Nat.le_of_ble_eq_true rfl)⟩ hP hD hK hS xn [0, 6, 1, 2, 3, 4, 5] [0, 6, 1, 2, 3, 4, 5] [7, 8] [2, 0, 1] [3] rfl (by decide) rfl rfl (by decide) (by decide) rfl rfl (va_free hD hS hA [0, 6, 1, 2, 3, 4, 5] rfl) (va_free hD hS hA [0, 6, 1, 2, 3, 4, 5] rfl) rfl hl.1 rfl (Nat.le_of_ble_eq_true rfl) dL_law_489 ⟨(Nat.le_of_ble_eq_true rfl), (Nat.le_of_ble_eq_true rfl)⟩ (fun u H locs hφ hP hD hK hS hk => ?_)
  have hP : va_P D vwCl [(h7, .inr (6, [v26, .ref h8, v27, v28, v29, v30, v31, .int 2, v32, v33, v34, v35, v36, v37, v38, v39, v40, v41, v42, v43, v44, v45, v46, v47, v48, v49, v50])), (h8, .inl (a3, 609, .inr (.inl f3))), (h0, .inr (5, [v0, .ref h1, v1, .ref h2, v2, v3, v4, v5, v6, v7])), (h6, .inl (a2, 1, .inr (.inl (vp_updL f2 0 0)))), (h1, .inr (0, [v8, v9, .int 2, v10, v11, v12, v13])), (h2, .inr (1, [v14, .ref h4, v15, .ref h3, v16, v17, v18, v19, v20, v21, v22, v23, v24])), (h3, .inl (a0, 48, .inl f0)), (h4, .inl (a1, 48, .inr (.inr (.inr (.inr f1))))), (h5, .inr (4, [v25, .int 0, .int 0]))] H := hP
  have hD : va_D A [(h7, .inr (6, [v26, .ref h8, v27, v28, v29, v30, v31, .int 2, v32, v33, v34, v35, v36, v37, v38, v39, v40, v41, v42, v43, v44, v45, v46, v47, v48, v49, v50])), (h8, .inl (a3, 609, .inr (.inl f3))), (h0, .inr (5, [v0, .ref h1, v1, .ref h2, v2, v3, v4, v5, v6, v7])), (h6, .inl (a2, 1, .inr (.inl (vp_updL f2 0 0)))), (h1, .inr (0, [v8, v9, .int 2, v10, v11, v12, v13])), (h2, .inr (1, [v14, .ref h4, v15, .ref h3, v16, v17, v18, v19, v20, v21, v22, v23, v24])), (h3, .inl (a0, 48, .inl f0)), (h4, .inl (a1, 48, .inr (.inr (.inr (.inr f1))))), (h5, .inr (4, [v25, .int 0, .int 0]))] := hD
  have hK : va_K D vwCl [(a3, .long), (a2, .long), (a0, .int), (a1, .object "LiftingSignal$Whole")] s := hK
  refine W.widen (k := 1010) (n := 8898) (Nat.le_of_ble_eq_true rfl) (Nat.le_of_ble_eq_true rfl) ?_
  refine lv_istore (lv' := [(5, .int 0), (4, .int 0), (3, .ref h6), (2, .ref h7), (1, .ref h0), (0, .ref b)]) hx hb dL_law_492 hl (by decide) rfl (fun ls hl => ?_)
  refine lv_aload_n hx hb dL_law_494 rfl (lv_at hl 3 rfl) ?_
  refine lv_aload_n hx hb dL_law_495 rfl (lv_at hl 5 rfl) ?_
  refine lv_iload hx hb dL_law_496 (lv_at hl 1 rfl) ?_
  refine lv_iconst (v := 1) hx hb dL_law_498 (by decide) ?_
  refine lv_iadd hx hb dL_law_499 ?_
  refine ti (1) (by decide) ?_
  refine va_sld hx hb hXs hbl hbA hS (vin (by decide)) dL_law_500 ?_
  refine ti 0 e1 ?_
  refine lv_aload_n hx hb dL_law_501 rfl (lv_at hl 5 rfl) ?_
  refine lv_iload hx hb dL_law_502 (lv_at hl 1 rfl) ?_
  refine lv_iconst (v := 2) hx hb dL_law_504 (by decide) ?_
  refine lv_iadd hx hb dL_law_505 ?_
  refine ti (2) (by decide) ?_
  refine va_sld hx hb hXs hbl hbA hS (vin (by decide)) dL_law_506 ?_
  refine ti 3 e2 ?_
  refine cVl (n := 2) (As := [.int 0, .int 3]) (rest := []) (wr := [(h0, .inr (5, [v0, .ref h1, v1, .ref h2, v2, v3, v4, v5, v6, v7])), (h6, .inl (a2, 1, .inr (.inl (vp_updL f2 0 0)))), (h1, .inr (0, [v8, v9, .int 2, v10, v11, v12, v13])), (h2, .inr (1, [v14, .ref h4, v15, .ref h3, v16, v17, v18, v19, v20, v21, v22, v23, v24])), (h3, .inl (a0, 48, .inl f0)), (h4, .inl (a1, 48, .inr (.inr (.inr (.inr f1))))), (h5, .inr (4, [v25, .int 0, .int 0]))]) (tr := [(a2, .long), (a0, .int), (a1, .object "LiftingSignal$Whole")]) hx hb hml hown hg okN (cX6_sample_72 l D h7 h8 v26 v27 v28 v29 v30 v31 v32 v33 v34 v35 v36 v37 v38 v39 v40 v41 v42 v43 v44 v45 v46 v47 v48 v49 v50 f3 a3 ef3_5 ef3_101) (mwV k1436 k1437 k1438 k92 k1439) ⟨rfl, by decide, by decide, by decide +kernel⟩ ⟨rfl, rfl, (Nat.le_of_ble_eq_true rfl), (Nat.le_of_ble_eq_true rfl)⟩ hP hD hK hS xn [0, 1] [0, 1] [2, 3, 4, 5, 6, 7, 8] [0] [1, 2, 3] rfl (by decide) rfl rfl (by decide) (by decide) rfl rfl (va_free hD hS hA [0, 1] rfl) (va_free hD hS hA [0, 1] rfl) 0 rfl rfl rfl hl.1 rfl (Nat.le_of_ble_eq_true rfl) dL_law_507 ⟨(Nat.le_of_ble_eq_true rfl), (Nat.le_of_ble_eq_true rfl)⟩ (fun u H locs hφ hP hD hK hS hk => ?_)
  have hP : va_P D vwCl [(h0, .inr (5, [v0, .ref h1, v1, .ref h2, v2, v3, v4, v5, v6, v7])), (h6, .inl (a2, 1, .inr (.inl (vp_updL f2 0 0)))), (h1, .inr (0, [v8, v9, .int 2, v10, v11, v12, v13])), (h2, .inr (1, [v14, .ref h4, v15, .ref h3, v16, v17, v18, v19, v20, v21, v22, v23, v24])), (h3, .inl (a0, 48, .inl f0)), (h4, .inl (a1, 48, .inr (.inr (.inr (.inr f1))))), (h5, .inr (4, [v25, .int 0, .int 0])), (h7, .inr (6, [.int 0, .ref h8, v27, v28, v29, v30, v31, .int 2, v32, v33, v34, v35, v36, v37, v38, v39, v40, v41, v42, v43, v44, v45, v46, v47, v48, v49, v50])), (h8, .inl (a3, 609, .inr (.inl f3)))] H := hP
  have hD : va_D A [(h0, .inr (5, [v0, .ref h1, v1, .ref h2, v2, v3, v4, v5, v6, v7])), (h6, .inl (a2, 1, .inr (.inl (vp_updL f2 0 0)))), (h1, .inr (0, [v8, v9, .int 2, v10, v11, v12, v13])), (h2, .inr (1, [v14, .ref h4, v15, .ref h3, v16, v17, v18, v19, v20, v21, v22, v23, v24])), (h3, .inl (a0, 48, .inl f0)), (h4, .inl (a1, 48, .inr (.inr (.inr (.inr f1))))), (h5, .inr (4, [v25, .int 0, .int 0])), (h7, .inr (6, [.int 0, .ref h8, v27, v28, v29, v30, v31, .int 2, v32, v33, v34, v35, v36, v37, v38, v39, v40, v41, v42, v43, v44, v45, v46, v47, v48, v49, v50])), (h8, .inl (a3, 609, .inr (.inl f3)))] := hD
  have hK : va_K D vwCl [(a2, .long), (a0, .int), (a1, .object "LiftingSignal$Whole"), (a3, .long)] s := hK
  refine W.widen (k := 1010) (n := 8898) (Nat.le_of_ble_eq_true rfl) (Nat.le_of_ble_eq_true rfl) ?_
  refine lv_lstore (lv' := [(6, .long 0), (5, .int 0), (4, .int 0), (3, .ref h6), (2, .ref h7), (1, .ref h0), (0, .ref b)]) hx hb dL_law_510 hl (by decide) rfl (fun ls hl => ?_)
  refine lv_aload_n hx hb dL_law_512 rfl (lv_at hl 4 rfl) ?_
  refine cVi (n := 0) (As := []) (rest := []) (wr := [(h0, .inr (5, [v0, .ref h1, v1, .ref h2, v2, v3, v4, v5, v6, v7])), (h6, .inl (a2, 1, .inr (.inl (vp_updL f2 0 0)))), (h1, .inr (0, [v8, v9, .int 2, v10, v11, v12, v13])), (h2, .inr (1, [v14, .ref h4, v15, .ref h3, v16, v17, v18, v19, v20, v21, v22, v23, v24])), (h3, .inl (a0, 48, .inl f0)), (h4, .inl (a1, 48, .inr (.inr (.inr (.inr f1))))), (h5, .inr (4, [v25, .int 0, .int 0])), (h7, .inr (6, [.int 0, .ref h8, v27, v28, v29, v30, v31, .int 2, v32, v33, v34, v35, v36, v37, v38, v39, v40, v41, v42, v43, v44, v45, v46, v47, v48, v49, v50])), (h8, .inl (a3, 609, .inr (.inl f3)))]) (tr := [(a2, .long), (a0, .int), (a1, .object "LiftingSignal$Whole"), (a3, .long)]) hx hb hml hown hg okN (cX6_thrown_1 l D h7 (.ref h8) v27 v28 v29 v30 v31 (.int 2) v32 v33 v34 v35 v36 v37 v38 v39 v40 v41 v42 v43 v44 v45 v46 v47 v48 v49 v50) (mwV k1301 k1302 k1303 k92 k1304) ⟨rfl, by decide, by decide, by decide +kernel⟩ ⟨rfl, rfl, (Nat.le_of_ble_eq_true rfl), (Nat.le_of_ble_eq_true rfl)⟩ hP hD hK hS xn [7] [] [0, 1, 2, 3, 4, 5, 6, 7, 8] [] [0, 1, 2, 3] rfl (by decide) rfl rfl (by decide) (by decide) rfl rfl (aNil hA hS) (aNil hA hS) 7 rfl rfl rfl hl.1 rfl (Nat.le_of_ble_eq_true rfl) dL_law_513 ⟨(Nat.le_of_ble_eq_true rfl), (Nat.le_of_ble_eq_true rfl)⟩ (fun u H locs hφ hP hD hK hS hk => ?_)
  have hP : va_P D vwCl [(h0, .inr (5, [v0, .ref h1, v1, .ref h2, v2, v3, v4, v5, v6, v7])), (h6, .inl (a2, 1, .inr (.inl (vp_updL f2 0 0)))), (h1, .inr (0, [v8, v9, .int 2, v10, v11, v12, v13])), (h2, .inr (1, [v14, .ref h4, v15, .ref h3, v16, v17, v18, v19, v20, v21, v22, v23, v24])), (h3, .inl (a0, 48, .inl f0)), (h4, .inl (a1, 48, .inr (.inr (.inr (.inr f1))))), (h5, .inr (4, [v25, .int 0, .int 0])), (h7, .inr (6, [.int 0, .ref h8, v27, v28, v29, v30, v31, .int 2, v32, v33, v34, v35, v36, v37, v38, v39, v40, v41, v42, v43, v44, v45, v46, v47, v48, v49, v50])), (h8, .inl (a3, 609, .inr (.inl f3)))] H := hP
  have hD : va_D A [(h0, .inr (5, [v0, .ref h1, v1, .ref h2, v2, v3, v4, v5, v6, v7])), (h6, .inl (a2, 1, .inr (.inl (vp_updL f2 0 0)))), (h1, .inr (0, [v8, v9, .int 2, v10, v11, v12, v13])), (h2, .inr (1, [v14, .ref h4, v15, .ref h3, v16, v17, v18, v19, v20, v21, v22, v23, v24])), (h3, .inl (a0, 48, .inl f0)), (h4, .inl (a1, 48, .inr (.inr (.inr (.inr f1))))), (h5, .inr (4, [v25, .int 0, .int 0])), (h7, .inr (6, [.int 0, .ref h8, v27, v28, v29, v30, v31, .int 2, v32, v33, v34, v35, v36, v37, v38, v39, v40, v41, v42, v43, v44, v45, v46, v47, v48, v49, v50])), (h8, .inl (a3, 609, .inr (.inl f3)))] := hD
  have hK : va_K D vwCl [(a2, .long), (a0, .int), (a1, .object "LiftingSignal$Whole"), (a3, .long)] s := hK
  refine W.widen (k := 1010) (n := 8898) (Nat.le_of_ble_eq_true rfl) (Nat.le_of_ble_eq_true rfl) ?_
  refine lv_iload hx hb dL_law_516 (lv_at hl 1 rfl) ?_
  refine lv_icmp_eq (tgt := 523) hx hb dL_law_518 (by decide) (fun _ => ?_) (fun c9 => absurd (by decide) c9)
  refine lv_iload hx hb dL_law_523 (lv_at hl 1 rfl) ?_
  refine lv_if_ne (tgt := 539) hx hb dL_law_525 (by decide) (fun c9 => absurd (by decide) c9) (fun _ => ?_)
  refine lv_aload_n hx hb dL_law_528 rfl (lv_at hl 3 rfl) ?_
  refine lv_iconst (v := 0) hx hb dL_law_529 (by decide) ?_
  refine aldL hx hb hK hP 1 0 rfl rfl 0 (by decide) (vin (by decide)) (v := 0) rfl dL_law_530 ?_
  refine lv_lload hx hb dL_law_531 (lv_at hl 0 rfl) ?_
  refine W.lcmp hx hb dL_law_533 ?_
  refine ti (0) (by decide) ?_
  refine lv_if_eq (tgt := 539) hx hb dL_law_534 (by decide) (fun _ => ?_) (fun c9 => absurd (by decide) c9)
  refine lv_goto (tgt := 2199) hx hb dL_law_539 (by decide) ?_
  refine W.widen (k := 3000) (n := 30000) (Nat.le_of_ble_eq_true rfl) (Nat.le_of_ble_eq_true rfl) ?_
  exact kk _ _ _ hS (lv_sub hl [2, 6] rfl)
set_option maxHeartbeats 4000000 in
set_option maxRecDepth 100000 in
theorem law_6_7 {p : Program} {e : Env} {s : State} {m : MethodId} {below : List Frame} {meth : Method} {c : Code} (l : Launch) (hlt : l.stackTraces = false) {b : Nat} {xs : Nat → Int32} (hx : p.tables.exec = Jvm.exec) (hb : c.code = cL_law) (hml : c.maxLocals = 9) (hown : s.vm.findClass RL = some m.cls) (hg : ∀ w ∈ GW, w.before #[Value.ref b] s = true) (hXs : va_X b 6 xs s s.heap) (hbl : b < s.heap.size) (D : va_G) {A : Nat → Prop} (hA : ∀ q, s.heap.size ≤ q → A q) (hbA : ¬ A b) (hX : XX A s s.heap) (Q : State → Prop) (h0 : Nat) (h1 : Nat) (h2 : Nat) (h3 : Nat) (h4 : Nat) (h5 : Nat) (h6 : Nat) (v0 : Value) (v1 : Value) (v2 : Value) (v3 : Value) (v4 : Value) (v5 : Value) (v6 : Value) (v7 : Value) (v8 : Value) (v9 : Value) (v10 : Value) (v11 : Value) (v12 : Value) (v13 : Value) (v14 : Value) (v15 : Value) (v16 : Value) (v17 : Value) (v18 : Value) (v19 : Value) (v20 : Value) (v21 : Value) (v22 : Value) (v23 : Value) (v24 : Value) (v25 : Value) (f0 : Nat → Int64) (f1 : Nat → Int64) (v26 : Value) (v27 : Value) (v28 : Value) (v29 : Value) (v30 : Value) (v31 : Value) (v32 : Value) (v33 : Value) (v34 : Value) (v35 : Value) (v36 : Value) (v37 : Value) (v38 : Value) (v39 : Value) (v40 : Value) (v41 : Value) (v42 : Value) (v43 : Value) (v44 : Value) (v45 : Value) (v46 : Value) (v47 : Value) (v48 : Value) (v49 : Value) (v50 : Value) (f2 : Nat → Int64) (a0 : ClassId) (a1 : ClassId) (a2 : ClassId) (ef0_0 : f0 0 = 1) (ef2_53 : f2 53 = 1) (ef2_101 : f2 101 = (-1)) (e1 : xs 1 = 0) (e2 : xs 2 = 4) {H : Heap} {locs : List Loc} {ls : Array Slot} (hP : va_P D vwCl [(h0, .inr (5, [v0, .ref h1, v1, .ref h2, v2, v3, v4, v5, v6, v7])), (h1, .inr (0, [v8, v9, .int 2, v10, v11, v12, v13])), (h2, .inr (1, [v14, v15, .ref h3, v16, v17, v18, v19, v20, v21, v22, v23, v24, v25])), (h3, .inl (a0, 48, .inr (.inl f0))), (h4, .inl (a1, 1, .inr (.inl f1))), (h5, .inr (6, [v26, .ref h6, v27, v28, v29, v30, v31, .int 2, v32, v33, v34, v35, v36, v37, v38, v39, v40, v41, v42, v43, v44, v45, v46, v47, v48, v49, v50])), (h6, .inl (a2, 609, .inr (.inl f2)))] H) (hD : va_D A [(h0, .inr (5, [v0, .ref h1, v1, .ref h2, v2, v3, v4, v5, v6, v7])), (h1, .inr (0, [v8, v9, .int 2, v10, v11, v12, v13])), (h2, .inr (1, [v14, v15, .ref h3, v16, v17, v18, v19, v20, v21, v22, v23, v24, v25])), (h3, .inl (a0, 48, .inr (.inl f0))), (h4, .inl (a1, 1, .inr (.inl f1))), (h5, .inr (6, [v26, .ref h6, v27, v28, v29, v30, v31, .int 2, v32, v33, v34, v35, v36, v37, v38, v39, v40, v41, v42, v43, v44, v45, v46, v47, v48, v49, v50])), (h6, .inl (a2, 609, .inr (.inl f2)))]) (hK : va_K D vwCl [(a0, .long), (a1, .long), (a2, .long)] s) (hS : va_S A s.heap H locs) (hl : lv_has ls 9 [(4, .int 0), (3, .ref h4), (2, .ref h5), (1, .ref h0), (0, .ref b)]) (kk : ∀ (H : Heap) (locs : List Loc) (ls : Array Slot), va_S A s.heap H locs → lv_has ls 9 [(4, .int 0), (0, .ref b)] → W p l e room_1 s m #[Value.ref b] below meth c H locs 3000 30000 Q (F0 m 2199 ls [])) : W p l e room_1 s m #[Value.ref b] below meth c H locs 1010 8898 Q (F0 m 475 ls []) := by
  refine lv_aload_n hx hb dL_law_475 rfl (lv_at hl 3 rfl) ?_
  refine lv_aload_n hx hb dL_law_476 rfl (lv_at hl 4 rfl) ?_
  refine lv_iload hx hb dL_law_477 (lv_at hl 0 rfl) ?_
  refine lv_iconst (v := 1) hx hb dL_law_479 (by decide) ?_
  refine lv_iadd hx hb dL_law_480 ?_
  refine ti (1) (by decide) ?_
  refine va_sld hx hb hXs hbl hbA hS (vin (by decide)) dL_law_481 ?_
  refine ti 0 e1 ?_
  refine lv_aload_n hx hb dL_law_482 rfl (lv_at hl 4 rfl) ?_
  refine lv_iload hx hb dL_law_483 (lv_at hl 0 rfl) ?_
  refine lv_iconst (v := 2) hx hb dL_law_485 (by decide) ?_
  refine lv_iadd hx hb dL_law_486 ?_
  refine ti (2) (by decide) ?_
  refine va_sld hx hb hXs hbl hbA hS (vin (by decide)) dL_law_487 ?_
  refine ti 4 e2 ?_
  refine lv_aload_n hx hb dL_law_488 rfl (lv_at hl 1 rfl) ?_
  refine cHi (n := 4) (As := [.ref h0, .int 0, .int 4, .ref h4]) (rest := []) (wr := [(h5, .inr (6, [v26, .ref h6, v27, v28, v29, v30, v31, .int 2, v32, v33, v34, v35, v36, v37, v38, v39, v40, v41, v42, v43, v44, v45, v46, v47, v48, v49, v50])), (h6, .inl (a2, 609, .inr (.inl f2)))]) (tr := [(a2, .long)]) hx hb hml hown hg okN (cL_sample_623 l D h0 h4 h1 h2 h3 v0 v1 v2 v3 v4 v5 v6 v7 f1 v8 v9 v10 v11 v12 v13 v14 v15 v16 v17 v18 v19 v20 v21 v22 v23 v24 v25 f0 a1 a0 ef0_0) (mwHS k854 k855 k83 k856) ⟨by decide, by decide, by decide +kernel⟩ ⟨rfl, rfl, (Nat.le_of_ble_eq_true rfl), (Nat.le_of_ble_eq_true rfl)⟩ hP hD hK hS xn [0, 4, 1, 2, 3] [0, 4, 1, 2, 3] [5, 6] [1, 0] [2] rfl (by decide) rfl rfl (by decide) (by decide) rfl rfl (va_free hD hS hA [0, 4, 1, 2, 3] rfl) (va_free hD hS hA [0, 4, 1, 2, 3] rfl) rfl hl.1 rfl (Nat.le_of_ble_eq_true rfl) dL_law_489 ⟨(Nat.le_of_ble_eq_true rfl), (Nat.le_of_ble_eq_true rfl)⟩ (fun u H locs hφ hP hD hK hS hk => ?_)
  have hP : va_P D vwCl [(h5, .inr (6, [v26, .ref h6, v27, v28, v29, v30, v31, .int 2, v32, v33, v34, v35, v36, v37, v38, v39, v40, v41, v42, v43, v44, v45, v46, v47, v48, v49, v50])), (h6, .inl (a2, 609, .inr (.inl f2))), (h0, .inr (5, [v0, .ref h1, v1, .ref h2, v2, v3, v4, v5, v6, v7])), (h4, .inl (a1, 1, .inr (.inl (vp_updL f1 0 1)))), (h1, .inr (0, [v8, v9, .int 2, v10, v11, v12, v13])), (h2, .inr (1, [v14, v15, .ref h3, v16, v17, v18, v19, v20, v21, v22, v23, v24, v25])), (h3, .inl (a0, 48, .inr (.inl f0)))] H := hP
  have hD : va_D A [(h5, .inr (6, [v26, .ref h6, v27, v28, v29, v30, v31, .int 2, v32, v33, v34, v35, v36, v37, v38, v39, v40, v41, v42, v43, v44, v45, v46, v47, v48, v49, v50])), (h6, .inl (a2, 609, .inr (.inl f2))), (h0, .inr (5, [v0, .ref h1, v1, .ref h2, v2, v3, v4, v5, v6, v7])), (h4, .inl (a1, 1, .inr (.inl (vp_updL f1 0 1)))), (h1, .inr (0, [v8, v9, .int 2, v10, v11, v12, v13])), (h2, .inr (1, [v14, v15, .ref h3, v16, v17, v18, v19, v20, v21, v22, v23, v24, v25])), (h3, .inl (a0, 48, .inr (.inl f0)))] := hD
  have hK : va_K D vwCl [(a2, .long), (a1, .long), (a0, .long)] s := hK
  refine W.widen (k := 1010) (n := 8898) (Nat.le_of_ble_eq_true rfl) (Nat.le_of_ble_eq_true rfl) ?_
  refine lv_istore (lv' := [(5, .int 0), (4, .int 0), (3, .ref h4), (2, .ref h5), (1, .ref h0), (0, .ref b)]) hx hb dL_law_492 hl (by decide) rfl (fun ls hl => ?_)
  refine lv_aload_n hx hb dL_law_494 rfl (lv_at hl 3 rfl) ?_
  refine lv_aload_n hx hb dL_law_495 rfl (lv_at hl 5 rfl) ?_
  refine lv_iload hx hb dL_law_496 (lv_at hl 1 rfl) ?_
  refine lv_iconst (v := 1) hx hb dL_law_498 (by decide) ?_
  refine lv_iadd hx hb dL_law_499 ?_
  refine ti (1) (by decide) ?_
  refine va_sld hx hb hXs hbl hbA hS (vin (by decide)) dL_law_500 ?_
  refine ti 0 e1 ?_
  refine lv_aload_n hx hb dL_law_501 rfl (lv_at hl 5 rfl) ?_
  refine lv_iload hx hb dL_law_502 (lv_at hl 1 rfl) ?_
  refine lv_iconst (v := 2) hx hb dL_law_504 (by decide) ?_
  refine lv_iadd hx hb dL_law_505 ?_
  refine ti (2) (by decide) ?_
  refine va_sld hx hb hXs hbl hbA hS (vin (by decide)) dL_law_506 ?_
  refine ti 4 e2 ?_
  refine cVl (n := 2) (As := [.int 0, .int 4]) (rest := []) (wr := [(h0, .inr (5, [v0, .ref h1, v1, .ref h2, v2, v3, v4, v5, v6, v7])), (h4, .inl (a1, 1, .inr (.inl (vp_updL f1 0 1)))), (h1, .inr (0, [v8, v9, .int 2, v10, v11, v12, v13])), (h2, .inr (1, [v14, v15, .ref h3, v16, v17, v18, v19, v20, v21, v22, v23, v24, v25])), (h3, .inl (a0, 48, .inr (.inl f0)))]) (tr := [(a1, .long), (a0, .long)]) hx hb hml hown hg okN (cX6_sample_74 l D h5 h6 v26 v27 v28 v29 v30 v31 v32 v33 v34 v35 v36 v37 v38 v39 v40 v41 v42 v43 v44 v45 v46 v47 v48 v49 v50 f2 a2 ef2_53 ef2_101) (mwV k1436 k1437 k1438 k92 k1439) ⟨rfl, by decide, by decide, by decide +kernel⟩ ⟨rfl, rfl, (Nat.le_of_ble_eq_true rfl), (Nat.le_of_ble_eq_true rfl)⟩ hP hD hK hS xn [0, 1] [0, 1] [2, 3, 4, 5, 6] [0] [1, 2] rfl (by decide) rfl rfl (by decide) (by decide) rfl rfl (va_free hD hS hA [0, 1] rfl) (va_free hD hS hA [0, 1] rfl) 0 rfl rfl rfl hl.1 rfl (Nat.le_of_ble_eq_true rfl) dL_law_507 ⟨(Nat.le_of_ble_eq_true rfl), (Nat.le_of_ble_eq_true rfl)⟩ (fun u H locs hφ hP hD hK hS hk => ?_)
  have hP : va_P D vwCl [(h0, .inr (5, [v0, .ref h1, v1, .ref h2, v2, v3, v4, v5, v6, v7])), (h4, .inl (a1, 1, .inr (.inl (vp_updL f1 0 1)))), (h1, .inr (0, [v8, v9, .int 2, v10, v11, v12, v13])), (h2, .inr (1, [v14, v15, .ref h3, v16, v17, v18, v19, v20, v21, v22, v23, v24, v25])), (h3, .inl (a0, 48, .inr (.inl f0))), (h5, .inr (6, [.int 0, .ref h6, v27, v28, v29, v30, v31, .int 2, v32, v33, v34, v35, v36, v37, v38, v39, v40, v41, v42, v43, v44, v45, v46, v47, v48, v49, v50])), (h6, .inl (a2, 609, .inr (.inl f2)))] H := hP
  have hD : va_D A [(h0, .inr (5, [v0, .ref h1, v1, .ref h2, v2, v3, v4, v5, v6, v7])), (h4, .inl (a1, 1, .inr (.inl (vp_updL f1 0 1)))), (h1, .inr (0, [v8, v9, .int 2, v10, v11, v12, v13])), (h2, .inr (1, [v14, v15, .ref h3, v16, v17, v18, v19, v20, v21, v22, v23, v24, v25])), (h3, .inl (a0, 48, .inr (.inl f0))), (h5, .inr (6, [.int 0, .ref h6, v27, v28, v29, v30, v31, .int 2, v32, v33, v34, v35, v36, v37, v38, v39, v40, v41, v42, v43, v44, v45, v46, v47, v48, v49, v50])), (h6, .inl (a2, 609, .inr (.inl f2)))] := hD
  have hK : va_K D vwCl [(a1, .long), (a0, .long), (a2, .long)] s := hK
  refine W.widen (k := 1010) (n := 8898) (Nat.le_of_ble_eq_true rfl) (Nat.le_of_ble_eq_true rfl) ?_
  refine lv_lstore (lv' := [(6, .long 1), (5, .int 0), (4, .int 0), (3, .ref h4), (2, .ref h5), (1, .ref h0), (0, .ref b)]) hx hb dL_law_510 hl (by decide) rfl (fun ls hl => ?_)
  refine lv_aload_n hx hb dL_law_512 rfl (lv_at hl 4 rfl) ?_
  refine cVi (n := 0) (As := []) (rest := []) (wr := [(h0, .inr (5, [v0, .ref h1, v1, .ref h2, v2, v3, v4, v5, v6, v7])), (h4, .inl (a1, 1, .inr (.inl (vp_updL f1 0 1)))), (h1, .inr (0, [v8, v9, .int 2, v10, v11, v12, v13])), (h2, .inr (1, [v14, v15, .ref h3, v16, v17, v18, v19, v20, v21, v22, v23, v24, v25])), (h3, .inl (a0, 48, .inr (.inl f0))), (h5, .inr (6, [.int 0, .ref h6, v27, v28, v29, v30, v31, .int 2, v32, v33, v34, v35, v36, v37, v38, v39, v40, v41, v42, v43, v44, v45, v46, v47, v48, v49, v50])), (h6, .inl (a2, 609, .inr (.inl f2)))]) (tr := [(a1, .long), (a0, .long), (a2, .long)]) hx hb hml hown hg okN (cX6_thrown_1 l D h5 (.ref h6) v27 v28 v29 v30 v31 (.int 2) v32 v33 v34 v35 v36 v37 v38 v39 v40 v41 v42 v43 v44 v45 v46 v47 v48 v49 v50) (mwV k1301 k1302 k1303 k92 k1304) ⟨rfl, by decide, by decide, by decide +kernel⟩ ⟨rfl, rfl, (Nat.le_of_ble_eq_true rfl), (Nat.le_of_ble_eq_true rfl)⟩ hP hD hK hS xn [5] [] [0, 1, 2, 3, 4, 5, 6] [] [0, 1, 2] rfl (by decide) rfl rfl (by decide) (by decide) rfl rfl (aNil hA hS) (aNil hA hS) 5 rfl rfl rfl hl.1 rfl (Nat.le_of_ble_eq_true rfl) dL_law_513 ⟨(Nat.le_of_ble_eq_true rfl), (Nat.le_of_ble_eq_true rfl)⟩ (fun u H locs hφ hP hD hK hS hk => ?_)
  have hP : va_P D vwCl [(h0, .inr (5, [v0, .ref h1, v1, .ref h2, v2, v3, v4, v5, v6, v7])), (h4, .inl (a1, 1, .inr (.inl (vp_updL f1 0 1)))), (h1, .inr (0, [v8, v9, .int 2, v10, v11, v12, v13])), (h2, .inr (1, [v14, v15, .ref h3, v16, v17, v18, v19, v20, v21, v22, v23, v24, v25])), (h3, .inl (a0, 48, .inr (.inl f0))), (h5, .inr (6, [.int 0, .ref h6, v27, v28, v29, v30, v31, .int 2, v32, v33, v34, v35, v36, v37, v38, v39, v40, v41, v42, v43, v44, v45, v46, v47, v48, v49, v50])), (h6, .inl (a2, 609, .inr (.inl f2)))] H := hP
  have hD : va_D A [(h0, .inr (5, [v0, .ref h1, v1, .ref h2, v2, v3, v4, v5, v6, v7])), (h4, .inl (a1, 1, .inr (.inl (vp_updL f1 0 1)))), (h1, .inr (0, [v8, v9, .int 2, v10, v11, v12, v13])), (h2, .inr (1, [v14, v15, .ref h3, v16, v17, v18, v19, v20, v21, v22, v23, v24, v25])), (h3, .inl (a0, 48, .inr (.inl f0))), (h5, .inr (6, [.int 0, .ref h6, v27, v28, v29, v30, v31, .int 2, v32, v33, v34, v35, v36, v37, v38, v39, v40, v41, v42, v43, v44, v45, v46, v47, v48, v49, v50])), (h6, .inl (a2, 609, .inr (.inl f2)))] := hD
  have hK : va_K D vwCl [(a1, .long), (a0, .long), (a2, .long)] s := hK
  refine W.widen (k := 1010) (n := 8898) (Nat.le_of_ble_eq_true rfl) (Nat.le_of_ble_eq_true rfl) ?_
  refine lv_iload hx hb dL_law_516 (lv_at hl 1 rfl) ?_
  refine lv_icmp_eq (tgt := 523) hx hb dL_law_518 (by decide) (fun _ => ?_) (fun c9 => absurd (by decide) c9)
  refine lv_iload hx hb dL_law_523 (lv_at hl 1 rfl) ?_
  refine lv_if_ne (tgt := 539) hx hb dL_law_525 (by decide) (fun c9 => absurd (by decide) c9) (fun _ => ?_)
  refine lv_aload_n hx hb dL_law_528 rfl (lv_at hl 3 rfl) ?_
  refine lv_iconst (v := 0) hx hb dL_law_529 (by decide) ?_
  refine aldL hx hb hK hP 1 0 rfl rfl 0 (by decide) (vin (by decide)) (v := 1) rfl dL_law_530 ?_
  refine lv_lload hx hb dL_law_531 (lv_at hl 0 rfl) ?_
  refine W.lcmp hx hb dL_law_533 ?_
  refine ti (0) (by decide) ?_
  refine lv_if_eq (tgt := 539) hx hb dL_law_534 (by decide) (fun _ => ?_) (fun c9 => absurd (by decide) c9)
  refine lv_goto (tgt := 2199) hx hb dL_law_539 (by decide) ?_
  refine W.widen (k := 3000) (n := 30000) (Nat.le_of_ble_eq_true rfl) (Nat.le_of_ble_eq_true rfl) ?_
  exact kk _ _ _ hS (lv_sub hl [2, 6] rfl)
set_option maxHeartbeats 4000000 in
set_option maxRecDepth 100000 in
theorem law_6_8 {p : Program} {e : Env} {s : State} {m : MethodId} {below : List Frame} {meth : Method} {c : Code} (l : Launch) (hlt : l.stackTraces = false) {b : Nat} {xs : Nat → Int32} (hx : p.tables.exec = Jvm.exec) (hb : c.code = cL_law) (hml : c.maxLocals = 9) (hown : s.vm.findClass RL = some m.cls) (hg : ∀ w ∈ GW, w.before #[Value.ref b] s = true) (hXs : va_X b 6 xs s s.heap) (hbl : b < s.heap.size) (D : va_G) {A : Nat → Prop} (hA : ∀ q, s.heap.size ≤ q → A q) (hbA : ¬ A b) (hX : XX A s s.heap) (Q : State → Prop) (h0 : Nat) (h1 : Nat) (h2 : Nat) (h3 : Nat) (h4 : Nat) (h5 : Nat) (h6 : Nat) (v0 : Value) (v1 : Value) (v2 : Value) (v3 : Value) (v4 : Value) (v5 : Value) (v6 : Value) (v7 : Value) (v8 : Value) (v9 : Value) (v10 : Value) (v11 : Value) (v12 : Value) (v13 : Value) (v14 : Value) (v15 : Value) (v16 : Value) (v17 : Value) (v18 : Value) (v19 : Value) (v20 : Value) (v21 : Value) (v22 : Value) (v23 : Value) (v24 : Value) (v25 : Value) (f0 : Nat → Int32) (f1 : Nat → Int64) (v26 : Value) (v27 : Value) (v28 : Value) (v29 : Value) (v30 : Value) (v31 : Value) (v32 : Value) (v33 : Value) (v34 : Value) (v35 : Value) (v36 : Value) (v37 : Value) (v38 : Value) (v39 : Value) (v40 : Value) (v41 : Value) (v42 : Value) (v43 : Value) (v44 : Value) (v45 : Value) (v46 : Value) (v47 : Value) (v48 : Value) (v49 : Value) (v50 : Value) (f2 : Nat → Int64) (a0 : ClassId) (a1 : ClassId) (a2 : ClassId) (ef0_0 : f0 0 = (-1)) (ef2_101 : f2 101 = (-1)) (e1 : xs 1 = 0) (e2 : xs 2 = 5) {H : Heap} {locs : List Loc} {ls : Array Slot} (hP : va_P D vwCl [(h0, .inr (5, [v0, .ref h1, v1, .ref h2, v2, v3, v4, v5, v6, v7])), (h1, .inr (0, [v8, v9, .int 2, v10, v11, v12, v13])), (h2, .inr (1, [v14, v15, v16, .ref h3, v17, v18, v19, v20, v21, v22, v23, v24, v25])), (h3, .inl (a0, 48, .inl f0)), (h4, .inl (a1, 1, .inr (.inl f1))), (h5, .inr (6, [v26, .ref h6, v27, v28, v29, v30, v31, .int 2, v32, v33, v34, v35, v36, v37, v38, v39, v40, v41, v42, v43, v44, v45, v46, v47, v48, v49, v50])), (h6, .inl (a2, 609, .inr (.inl f2)))] H) (hD : va_D A [(h0, .inr (5, [v0, .ref h1, v1, .ref h2, v2, v3, v4, v5, v6, v7])), (h1, .inr (0, [v8, v9, .int 2, v10, v11, v12, v13])), (h2, .inr (1, [v14, v15, v16, .ref h3, v17, v18, v19, v20, v21, v22, v23, v24, v25])), (h3, .inl (a0, 48, .inl f0)), (h4, .inl (a1, 1, .inr (.inl f1))), (h5, .inr (6, [v26, .ref h6, v27, v28, v29, v30, v31, .int 2, v32, v33, v34, v35, v36, v37, v38, v39, v40, v41, v42, v43, v44, v45, v46, v47, v48, v49, v50])), (h6, .inl (a2, 609, .inr (.inl f2)))]) (hK : va_K D vwCl [(a0, .int), (a1, .long), (a2, .long)] s) (hS : va_S A s.heap H locs) (hl : lv_has ls 9 [(4, .int 0), (3, .ref h4), (2, .ref h5), (1, .ref h0), (0, .ref b)]) (kk : ∀ (H : Heap) (locs : List Loc) (ls : Array Slot), va_S A s.heap H locs → lv_has ls 9 [(4, .int 0), (0, .ref b)] → W p l e room_1 s m #[Value.ref b] below meth c H locs 3000 30000 Q (F0 m 2199 ls [])) : W p l e room_1 s m #[Value.ref b] below meth c H locs 1010 8898 Q (F0 m 475 ls []) := by
  refine lv_aload_n hx hb dL_law_475 rfl (lv_at hl 3 rfl) ?_
  refine lv_aload_n hx hb dL_law_476 rfl (lv_at hl 4 rfl) ?_
  refine lv_iload hx hb dL_law_477 (lv_at hl 0 rfl) ?_
  refine lv_iconst (v := 1) hx hb dL_law_479 (by decide) ?_
  refine lv_iadd hx hb dL_law_480 ?_
  refine ti (1) (by decide) ?_
  refine va_sld hx hb hXs hbl hbA hS (vin (by decide)) dL_law_481 ?_
  refine ti 0 e1 ?_
  refine lv_aload_n hx hb dL_law_482 rfl (lv_at hl 4 rfl) ?_
  refine lv_iload hx hb dL_law_483 (lv_at hl 0 rfl) ?_
  refine lv_iconst (v := 2) hx hb dL_law_485 (by decide) ?_
  refine lv_iadd hx hb dL_law_486 ?_
  refine ti (2) (by decide) ?_
  refine va_sld hx hb hXs hbl hbA hS (vin (by decide)) dL_law_487 ?_
  refine ti 5 e2 ?_
  refine lv_aload_n hx hb dL_law_488 rfl (lv_at hl 1 rfl) ?_
  refine cHi (n := 4) (As := [.ref h0, .int 0, .int 5, .ref h4]) (rest := []) (wr := [(h5, .inr (6, [v26, .ref h6, v27, v28, v29, v30, v31, .int 2, v32, v33, v34, v35, v36, v37, v38, v39, v40, v41, v42, v43, v44, v45, v46, v47, v48, v49, v50])), (h6, .inl (a2, 609, .inr (.inl f2)))]) (tr := [(a2, .long)]) hx hb hml hown hg okN (cL_sample_624 l D h0 h4 h1 h2 h3 v0 v1 v2 v3 v4 v5 v6 v7 f1 v8 v9 v10 v11 v12 v13 v14 v15 v16 v17 v18 v19 v20 v21 v22 v23 v24 v25 f0 a1 a0 ef0_0) (mwHS k854 k855 k83 k856) ⟨by decide, by decide, by decide +kernel⟩ ⟨rfl, rfl, (Nat.le_of_ble_eq_true rfl), (Nat.le_of_ble_eq_true rfl)⟩ hP hD hK hS xn [0, 4, 1, 2, 3] [0, 4, 1, 2, 3] [5, 6] [1, 0] [2] rfl (by decide) rfl rfl (by decide) (by decide) rfl rfl (va_free hD hS hA [0, 4, 1, 2, 3] rfl) (va_free hD hS hA [0, 4, 1, 2, 3] rfl) rfl hl.1 rfl (Nat.le_of_ble_eq_true rfl) dL_law_489 ⟨(Nat.le_of_ble_eq_true rfl), (Nat.le_of_ble_eq_true rfl)⟩ (fun u H locs hφ hP hD hK hS hk => ?_)
  have hP : va_P D vwCl [(h5, .inr (6, [v26, .ref h6, v27, v28, v29, v30, v31, .int 2, v32, v33, v34, v35, v36, v37, v38, v39, v40, v41, v42, v43, v44, v45, v46, v47, v48, v49, v50])), (h6, .inl (a2, 609, .inr (.inl f2))), (h0, .inr (5, [v0, .ref h1, v1, .ref h2, v2, v3, v4, v5, v6, v7])), (h4, .inl (a1, 1, .inr (.inl (vp_updL f1 0 (-1))))), (h1, .inr (0, [v8, v9, .int 2, v10, v11, v12, v13])), (h2, .inr (1, [v14, v15, v16, .ref h3, v17, v18, v19, v20, v21, v22, v23, v24, v25])), (h3, .inl (a0, 48, .inl f0))] H := hP
  have hD : va_D A [(h5, .inr (6, [v26, .ref h6, v27, v28, v29, v30, v31, .int 2, v32, v33, v34, v35, v36, v37, v38, v39, v40, v41, v42, v43, v44, v45, v46, v47, v48, v49, v50])), (h6, .inl (a2, 609, .inr (.inl f2))), (h0, .inr (5, [v0, .ref h1, v1, .ref h2, v2, v3, v4, v5, v6, v7])), (h4, .inl (a1, 1, .inr (.inl (vp_updL f1 0 (-1))))), (h1, .inr (0, [v8, v9, .int 2, v10, v11, v12, v13])), (h2, .inr (1, [v14, v15, v16, .ref h3, v17, v18, v19, v20, v21, v22, v23, v24, v25])), (h3, .inl (a0, 48, .inl f0))] := hD
  have hK : va_K D vwCl [(a2, .long), (a1, .long), (a0, .int)] s := hK
  refine W.widen (k := 1010) (n := 8898) (Nat.le_of_ble_eq_true rfl) (Nat.le_of_ble_eq_true rfl) ?_
  refine lv_istore (lv' := [(5, .int 0), (4, .int 0), (3, .ref h4), (2, .ref h5), (1, .ref h0), (0, .ref b)]) hx hb dL_law_492 hl (by decide) rfl (fun ls hl => ?_)
  refine lv_aload_n hx hb dL_law_494 rfl (lv_at hl 3 rfl) ?_
  refine lv_aload_n hx hb dL_law_495 rfl (lv_at hl 5 rfl) ?_
  refine lv_iload hx hb dL_law_496 (lv_at hl 1 rfl) ?_
  refine lv_iconst (v := 1) hx hb dL_law_498 (by decide) ?_
  refine lv_iadd hx hb dL_law_499 ?_
  refine ti (1) (by decide) ?_
  refine va_sld hx hb hXs hbl hbA hS (vin (by decide)) dL_law_500 ?_
  refine ti 0 e1 ?_
  refine lv_aload_n hx hb dL_law_501 rfl (lv_at hl 5 rfl) ?_
  refine lv_iload hx hb dL_law_502 (lv_at hl 1 rfl) ?_
  refine lv_iconst (v := 2) hx hb dL_law_504 (by decide) ?_
  refine lv_iadd hx hb dL_law_505 ?_
  refine ti (2) (by decide) ?_
  refine va_sld hx hb hXs hbl hbA hS (vin (by decide)) dL_law_506 ?_
  refine ti 5 e2 ?_
  refine cVl (n := 2) (As := [.int 0, .int 5]) (rest := []) (wr := [(h0, .inr (5, [v0, .ref h1, v1, .ref h2, v2, v3, v4, v5, v6, v7])), (h4, .inl (a1, 1, .inr (.inl (vp_updL f1 0 (-1))))), (h1, .inr (0, [v8, v9, .int 2, v10, v11, v12, v13])), (h2, .inr (1, [v14, v15, v16, .ref h3, v17, v18, v19, v20, v21, v22, v23, v24, v25])), (h3, .inl (a0, 48, .inl f0))]) (tr := [(a1, .long), (a0, .int)]) hx hb hml hown hg okN (cX6_sample_76 l D h5 h6 v26 v27 v28 v29 v30 v31 v32 v33 v34 v35 v36 v37 v38 v39 v40 v41 v42 v43 v44 v45 v46 v47 v48 v49 v50 f2 a2 ef2_101) (mwV k1436 k1437 k1438 k92 k1439) ⟨rfl, by decide, by decide, by decide +kernel⟩ ⟨rfl, rfl, (Nat.le_of_ble_eq_true rfl), (Nat.le_of_ble_eq_true rfl)⟩ hP hD hK hS xn [0, 1] [0, 1] [2, 3, 4, 5, 6] [0] [1, 2] rfl (by decide) rfl rfl (by decide) (by decide) rfl rfl (va_free hD hS hA [0, 1] rfl) (va_free hD hS hA [0, 1] rfl) 0 rfl rfl rfl hl.1 rfl (Nat.le_of_ble_eq_true rfl) dL_law_507 ⟨(Nat.le_of_ble_eq_true rfl), (Nat.le_of_ble_eq_true rfl)⟩ (fun u H locs hφ hP hD hK hS hk => ?_)
  have hP : va_P D vwCl [(h0, .inr (5, [v0, .ref h1, v1, .ref h2, v2, v3, v4, v5, v6, v7])), (h4, .inl (a1, 1, .inr (.inl (vp_updL f1 0 (-1))))), (h1, .inr (0, [v8, v9, .int 2, v10, v11, v12, v13])), (h2, .inr (1, [v14, v15, v16, .ref h3, v17, v18, v19, v20, v21, v22, v23, v24, v25])), (h3, .inl (a0, 48, .inl f0)), (h5, .inr (6, [.int 0, .ref h6, v27, v28, v29, v30, v31, .int 2, v32, v33, v34, v35, v36, v37, v38, v39, v40, v41, v42, v43, v44, v45, v46, v47, v48, v49, v50])), (h6, .inl (a2, 609, .inr (.inl f2)))] H := hP
  have hD : va_D A [(h0, .inr (5, [v0, .ref h1, v1, .ref h2, v2, v3, v4, v5, v6, v7])), (h4, .inl (a1, 1, .inr (.inl (vp_updL f1 0 (-1))))), (h1, .inr (0, [v8, v9, .int 2, v10, v11, v12, v13])), (h2, .inr (1, [v14, v15, v16, .ref h3, v17, v18, v19, v20, v21, v22, v23, v24, v25])), (h3, .inl (a0, 48, .inl f0)), (h5, .inr (6, [.int 0, .ref h6, v27, v28, v29, v30, v31, .int 2, v32, v33, v34, v35, v36, v37, v38, v39, v40, v41, v42, v43, v44, v45, v46, v47, v48, v49, v50])), (h6, .inl (a2, 609, .inr (.inl f2)))] := hD
  have hK : va_K D vwCl [(a1, .long), (a0, .int), (a2, .long)] s := hK
  refine W.widen (k := 1010) (n := 8898) (Nat.le_of_ble_eq_true rfl) (Nat.le_of_ble_eq_true rfl) ?_
  refine lv_lstore (lv' := [(6, .long (-1)), (5, .int 0), (4, .int 0), (3, .ref h4), (2, .ref h5), (1, .ref h0), (0, .ref b)]) hx hb dL_law_510 hl (by decide) rfl (fun ls hl => ?_)
  refine lv_aload_n hx hb dL_law_512 rfl (lv_at hl 4 rfl) ?_
  refine cVi (n := 0) (As := []) (rest := []) (wr := [(h0, .inr (5, [v0, .ref h1, v1, .ref h2, v2, v3, v4, v5, v6, v7])), (h4, .inl (a1, 1, .inr (.inl (vp_updL f1 0 (-1))))), (h1, .inr (0, [v8, v9, .int 2, v10, v11, v12, v13])), (h2, .inr (1, [v14, v15, v16, .ref h3, v17, v18, v19, v20, v21, v22, v23, v24, v25])), (h3, .inl (a0, 48, .inl f0)), (h5, .inr (6, [.int 0, .ref h6, v27, v28, v29, v30, v31, .int 2, v32, v33, v34, v35, v36, v37, v38, v39, v40, v41, v42, v43, v44, v45, v46, v47, v48, v49, v50])), (h6, .inl (a2, 609, .inr (.inl f2)))]) (tr := [(a1, .long), (a0, .int), (a2, .long)]) hx hb hml hown hg okN (cX6_thrown_1 l D h5 (.ref h6) v27 v28 v29 v30 v31 (.int 2) v32 v33 v34 v35 v36 v37 v38 v39 v40 v41 v42 v43 v44 v45 v46 v47 v48 v49 v50) (mwV k1301 k1302 k1303 k92 k1304) ⟨rfl, by decide, by decide, by decide +kernel⟩ ⟨rfl, rfl, (Nat.le_of_ble_eq_true rfl), (Nat.le_of_ble_eq_true rfl)⟩ hP hD hK hS xn [5] [] [0, 1, 2, 3, 4, 5, 6] [] [0, 1, 2] rfl (by decide) rfl rfl (by decide) (by decide) rfl rfl (aNil hA hS) (aNil hA hS) 5 rfl rfl rfl hl.1 rfl (Nat.le_of_ble_eq_true rfl) dL_law_513 ⟨(Nat.le_of_ble_eq_true rfl), (Nat.le_of_ble_eq_true rfl)⟩ (fun u H locs hφ hP hD hK hS hk => ?_)
  have hP : va_P D vwCl [(h0, .inr (5, [v0, .ref h1, v1, .ref h2, v2, v3, v4, v5, v6, v7])), (h4, .inl (a1, 1, .inr (.inl (vp_updL f1 0 (-1))))), (h1, .inr (0, [v8, v9, .int 2, v10, v11, v12, v13])), (h2, .inr (1, [v14, v15, v16, .ref h3, v17, v18, v19, v20, v21, v22, v23, v24, v25])), (h3, .inl (a0, 48, .inl f0)), (h5, .inr (6, [.int 0, .ref h6, v27, v28, v29, v30, v31, .int 2, v32, v33, v34, v35, v36, v37, v38, v39, v40, v41, v42, v43, v44, v45, v46, v47, v48, v49, v50])), (h6, .inl (a2, 609, .inr (.inl f2)))] H := hP
  have hD : va_D A [(h0, .inr (5, [v0, .ref h1, v1, .ref h2, v2, v3, v4, v5, v6, v7])), (h4, .inl (a1, 1, .inr (.inl (vp_updL f1 0 (-1))))), (h1, .inr (0, [v8, v9, .int 2, v10, v11, v12, v13])), (h2, .inr (1, [v14, v15, v16, .ref h3, v17, v18, v19, v20, v21, v22, v23, v24, v25])), (h3, .inl (a0, 48, .inl f0)), (h5, .inr (6, [.int 0, .ref h6, v27, v28, v29, v30, v31, .int 2, v32, v33, v34, v35, v36, v37, v38, v39, v40, v41, v42, v43, v44, v45, v46, v47, v48, v49, v50])), (h6, .inl (a2, 609, .inr (.inl f2)))] := hD
  have hK : va_K D vwCl [(a1, .long), (a0, .int), (a2, .long)] s := hK
  refine W.widen (k := 1010) (n := 8898) (Nat.le_of_ble_eq_true rfl) (Nat.le_of_ble_eq_true rfl) ?_
  refine lv_iload hx hb dL_law_516 (lv_at hl 1 rfl) ?_
  refine lv_icmp_eq (tgt := 523) hx hb dL_law_518 (by decide) (fun _ => ?_) (fun c9 => absurd (by decide) c9)
  refine lv_iload hx hb dL_law_523 (lv_at hl 1 rfl) ?_
  refine lv_if_ne (tgt := 539) hx hb dL_law_525 (by decide) (fun c9 => absurd (by decide) c9) (fun _ => ?_)
  refine lv_aload_n hx hb dL_law_528 rfl (lv_at hl 3 rfl) ?_
  refine lv_iconst (v := 0) hx hb dL_law_529 (by decide) ?_
  refine aldL hx hb hK hP 1 0 rfl rfl 0 (by decide) (vin (by decide)) (v := (-1)) rfl dL_law_530 ?_
  refine lv_lload hx hb dL_law_531 (lv_at hl 0 rfl) ?_
  refine W.lcmp hx hb dL_law_533 ?_
  refine ti (0) (by decide) ?_
  refine lv_if_eq (tgt := 539) hx hb dL_law_534 (by decide) (fun _ => ?_) (fun c9 => absurd (by decide) c9)
  refine lv_goto (tgt := 2199) hx hb dL_law_539 (by decide) ?_
  refine W.widen (k := 3000) (n := 30000) (Nat.le_of_ble_eq_true rfl) (Nat.le_of_ble_eq_true rfl) ?_
  exact kk _ _ _ hS (lv_sub hl [2, 6] rfl)
set_option maxHeartbeats 4000000 in
set_option maxRecDepth 100000 in
theorem law_6_9 {p : Program} {e : Env} {s : State} {m : MethodId} {below : List Frame} {meth : Method} {c : Code} (l : Launch) (hlt : l.stackTraces = false) {b : Nat} {xs : Nat → Int32} (hx : p.tables.exec = Jvm.exec) (hb : c.code = cL_law) (hml : c.maxLocals = 9) (hown : s.vm.findClass RL = some m.cls) (hg : ∀ w ∈ GW, w.before #[Value.ref b] s = true) (hXs : va_X b 6 xs s s.heap) (hbl : b < s.heap.size) (D : va_G) {A : Nat → Prop} (hA : ∀ q, s.heap.size ≤ q → A q) (hbA : ¬ A b) (hX : XX A s s.heap) (Q : State → Prop) (h0 : Nat) (h1 : Nat) (h2 : Nat) (h3 : Nat) (v0 : Value) (v1 : Value) (v2 : Value) (v3 : Value) (v4 : Value) (v5 : Value) (v6 : Value) (v7 : Value) (v8 : Value) (v9 : Value) (v10 : Value) (v11 : Value) (v12 : Value) (v13 : Value) (v14 : Value) (v15 : Value) (v16 : Value) (v17 : Value) (v18 : Value) (v19 : Value) (v20 : Value) (v21 : Value) (v22 : Value) (v23 : Value) (v24 : Value) (v25 : Value) (v26 : Value) (v27 : Value) (v28 : Value) (v29 : Value) (v30 : Value) (v31 : Value) (v32 : Value) (v33 : Value) (v34 : Value) (v35 : Value) (v36 : Value) (v37 : Value) (v38 : Value) (v39 : Value) (v40 : Value)  (e1 : xs 1 = 0) (p2 : Int32) (e2 : xs 2 = p2) (bl2 : 6 ≤ p2.toInt) (bh2 : p2.toInt ≤ 2147483647) {H : Heap} {locs : List Loc} {ls : Array Slot} (hP : va_P D vwCl [(h0, .inr (5, [v0, .ref h1, v1, v2, v3, v4, v5, v6, v7, v8])), (h1, .inr (0, [v9, v10, .int 2, v11, v12, v13, v14])), (h2, .inr (6, [v15, v16, v17, v18, v19, v20, v21, .int 2, v22, v23, v24, v25, v26, v27, v28, v29, v30, v31, v32, v33, v34, v35, v36, v37, v38, v39, v40]))] H) (hD : va_D A [(h0, .inr (5, [v0, .ref h1, v1, v2, v3, v4, v5, v6, v7, v8])), (h1, .inr (0, [v9, v10, .int 2, v11, v12, v13, v14])), (h2, .inr (6, [v15, v16, v17, v18, v19, v20, v21, .int 2, v22, v23, v24, v25, v26, v27, v28, v29, v30, v31, v32, v33, v34, v35, v36, v37, v38, v39, v40]))]) (hK : va_K D vwCl [] s) (hS : va_S A s.heap H locs) (hl : lv_has ls 9 [(4, .int 0), (3, .ref h3), (2, .ref h2), (1, .ref h0), (0, .ref b)]) (kk : ∀ (H : Heap) (locs : List Loc) (ls : Array Slot), va_S A s.heap H locs → lv_has ls 9 [(4, .int 0), (0, .ref b)] → W p l e room_1 s m #[Value.ref b] below meth c H locs 3000 30000 Q (F0 m 2199 ls [])) : W p l e room_1 s m #[Value.ref b] below meth c H locs 1010 8898 Q (F0 m 475 ls []) := by
  have d0 : p2.toInt < 0 ∨ 5 < p2.toInt := (by omega)
  have d1 : ¬ ((lg_cmp p2.toInt64 0) < 0) := lgq3 (by have h0 : (0 : Int64).toInt = 0 := (by decide); have hp2 := i2lI p2; omega)
  have d2 : 0 < (lg_cmp p2.toInt64 5) := lgq5 (by have h5 : (5 : Int64).toInt = 5 := (by decide); have hp2 := i2lI p2; omega)
  refine lv_aload_n hx hb dL_law_475 rfl (lv_at hl 3 rfl) ?_
  refine lv_aload_n hx hb dL_law_476 rfl (lv_at hl 4 rfl) ?_
  refine lv_iload hx hb dL_law_477 (lv_at hl 0 rfl) ?_
  refine lv_iconst (v := 1) hx hb dL_law_479 (by decide) ?_
  refine lv_iadd hx hb dL_law_480 ?_
  refine ti (1) (by decide) ?_
  refine va_sld hx hb hXs hbl hbA hS (vin (by decide)) dL_law_481 ?_
  refine ti 0 e1 ?_
  refine lv_aload_n hx hb dL_law_482 rfl (lv_at hl 4 rfl) ?_
  refine lv_iload hx hb dL_law_483 (lv_at hl 0 rfl) ?_
  refine lv_iconst (v := 2) hx hb dL_law_485 (by decide) ?_
  refine lv_iadd hx hb dL_law_486 ?_
  refine ti (2) (by decide) ?_
  refine va_sld hx hb hXs hbl hbA hS (vin (by decide)) dL_law_487 ?_
  refine ti p2 e2 ?_
  refine lv_aload_n hx hb dL_law_488 rfl (lv_at hl 1 rfl) ?_
  refine cHi (n := 4) (As := [.ref h0, .int 0, .int p2, .ref h3]) (rest := []) (wr := [(h0, .inr (5, [v0, .ref h1, v1, v2, v3, v4, v5, v6, v7, v8])), (h1, .inr (0, [v9, v10, .int 2, v11, v12, v13, v14])), (h2, .inr (6, [v15, v16, v17, v18, v19, v20, v21, .int 2, v22, v23, v24, v25, v26, v27, v28, v29, v30, v31, v32, v33, v34, v35, v36, v37, v38, v39, v40]))]) (tr := []) hx hb hml hown hg okXX (cL_sample_617 l D hlt h0 p2 h3 h1 v0 v1 v2 v3 v4 v5 v6 v7 v8 v9 v10 v11 v12 v13 v14 d0) (mwHS k854 k855 k83 k856) ⟨by decide, by decide, by decide +kernel⟩ ⟨rfl, rfl, (Nat.le_of_ble_eq_true rfl), (Nat.le_of_ble_eq_true rfl)⟩ hP hD hK hS (okXX.2.2 _ _ _ _ hS.2.1 hX) [0, 1] [] [0, 1, 2] [] [] rfl (by decide) rfl rfl (by decide) (by decide) rfl rfl (aNil hA hS) (aNil hA hS) rfl hl.1 rfl (Nat.le_of_ble_eq_true rfl) dL_law_489 ⟨(Nat.le_of_ble_eq_true rfl), (Nat.le_of_ble_eq_true rfl)⟩ (fun u H locs hφ hP hD hK hS hk => ?_)
  have hP : va_P D vwCl [(h0, .inr (5, [v0, .ref h1, v1, v2, v3, v4, v5, v6, v7, v8])), (h1, .inr (0, [v9, v10, .int 2, v11, v12, v13, v14])), (h2, .inr (6, [v15, v16, v17, v18, v19, v20, v21, .int 2, v22, v23, v24, v25, v26, v27, v28, v29, v30, v31, v32, v33, v34, v35, v36, v37, v38, v39, v40]))] H := hP
  have hD : va_D A [(h0, .inr (5, [v0, .ref h1, v1, v2, v3, v4, v5, v6, v7, v8])), (h1, .inr (0, [v9, v10, .int 2, v11, v12, v13, v14])), (h2, .inr (6, [v15, v16, v17, v18, v19, v20, v21, .int 2, v22, v23, v24, v25, v26, v27, v28, v29, v30, v31, v32, v33, v34, v35, v36, v37, v38, v39, v40]))] := hD
  have hK : va_K D vwCl [] s := hK
  refine W.widen (k := 1011) (n := 8904) (Nat.le_of_ble_eq_true rfl) (Nat.le_of_ble_eq_true rfl) ?_
  refine lv_istore (lv' := [(5, .int 2), (4, .int 0), (3, .ref h3), (2, .ref h2), (1, .ref h0), (0, .ref b)]) hx hb dL_law_492 hl (by decide) rfl (fun ls hl => ?_)
  refine lv_aload_n hx hb dL_law_494 rfl (lv_at hl 3 rfl) ?_
  refine lv_aload_n hx hb dL_law_495 rfl (lv_at hl 5 rfl) ?_
  refine lv_iload hx hb dL_law_496 (lv_at hl 1 rfl) ?_
  refine lv_iconst (v := 1) hx hb dL_law_498 (by decide) ?_
  refine lv_iadd hx hb dL_law_499 ?_
  refine ti (1) (by decide) ?_
  refine va_sld hx hb hXs hbl hbA hS (vin (by decide)) dL_law_500 ?_
  refine ti 0 e1 ?_
  refine lv_aload_n hx hb dL_law_501 rfl (lv_at hl 5 rfl) ?_
  refine lv_iload hx hb dL_law_502 (lv_at hl 1 rfl) ?_
  refine lv_iconst (v := 2) hx hb dL_law_504 (by decide) ?_
  refine lv_iadd hx hb dL_law_505 ?_
  refine ti (2) (by decide) ?_
  refine va_sld hx hb hXs hbl hbA hS (vin (by decide)) dL_law_506 ?_
  refine ti p2 e2 ?_
  refine cVl (n := 2) (As := [.int 0, .int p2]) (rest := []) (wr := [(h0, .inr (5, [v0, .ref h1, v1, v2, v3, v4, v5, v6, v7, v8])), (h1, .inr (0, [v9, v10, .int 2, v11, v12, v13, v14]))]) (tr := []) hx hb hml hown hg okN (cX6_sample_78 l D h2 p2 v15 v16 v17 v18 v19 v20 v21 v22 v23 v24 v25 v26 v27 v28 v29 v30 v31 v32 v33 v34 v35 v36 v37 v38 v39 v40 d1 d2) (mwV k1436 k1437 k1438 k92 k1439) ⟨rfl, by decide, by decide, by decide +kernel⟩ ⟨rfl, rfl, (Nat.le_of_ble_eq_true rfl), (Nat.le_of_ble_eq_true rfl)⟩ hP hD hK hS xn [2] [2] [0, 1] [] [] rfl (by decide) rfl rfl (by decide) (by decide) rfl rfl (va_free hD hS hA [2] rfl) (va_free hD hS hA [2] rfl) 2 rfl rfl rfl hl.1 rfl (Nat.le_of_ble_eq_true rfl) dL_law_507 ⟨(Nat.le_of_ble_eq_true rfl), (Nat.le_of_ble_eq_true rfl)⟩ (fun u H locs hφ hP hD hK hS hk => ?_)
  have hP : va_P D vwCl [(h0, .inr (5, [v0, .ref h1, v1, v2, v3, v4, v5, v6, v7, v8])), (h1, .inr (0, [v9, v10, .int 2, v11, v12, v13, v14])), (h2, .inr (6, [.int 2, v16, v17, v18, v19, v20, v21, .int 2, v22, v23, v24, v25, v26, v27, v28, v29, v30, v31, v32, v33, v34, v35, v36, v37, v38, v39, v40]))] H := hP
  have hD : va_D A [(h0, .inr (5, [v0, .ref h1, v1, v2, v3, v4, v5, v6, v7, v8])), (h1, .inr (0, [v9, v10, .int 2, v11, v12, v13, v14])), (h2, .inr (6, [.int 2, v16, v17, v18, v19, v20, v21, .int 2, v22, v23, v24, v25, v26, v27, v28, v29, v30, v31, v32, v33, v34, v35, v36, v37, v38, v39, v40]))] := hD
  have hK : va_K D vwCl [] s := hK
  refine W.widen (k := 1011) (n := 8904) (Nat.le_of_ble_eq_true rfl) (Nat.le_of_ble_eq_true rfl) ?_
  refine lv_lstore (lv' := [(6, .long 0), (5, .int 2), (4, .int 0), (3, .ref h3), (2, .ref h2), (1, .ref h0), (0, .ref b)]) hx hb dL_law_510 hl (by decide) rfl (fun ls hl => ?_)
  refine lv_aload_n hx hb dL_law_512 rfl (lv_at hl 4 rfl) ?_
  refine cVi (n := 0) (As := []) (rest := []) (wr := [(h0, .inr (5, [v0, .ref h1, v1, v2, v3, v4, v5, v6, v7, v8])), (h1, .inr (0, [v9, v10, .int 2, v11, v12, v13, v14])), (h2, .inr (6, [.int 2, v16, v17, v18, v19, v20, v21, .int 2, v22, v23, v24, v25, v26, v27, v28, v29, v30, v31, v32, v33, v34, v35, v36, v37, v38, v39, v40]))]) (tr := []) hx hb hml hown hg okN (cX6_thrown_618 l D h2 v16 v17 v18 v19 v20 v21 (.int 2) v22 v23 v24 v25 v26 v27 v28 v29 v30 v31 v32 v33 v34 v35 v36 v37 v38 v39 v40) (mwV k1301 k1302 k1303 k92 k1304) ⟨rfl, by decide, by decide, by decide +kernel⟩ ⟨rfl, rfl, (Nat.le_of_ble_eq_true rfl), (Nat.le_of_ble_eq_true rfl)⟩ hP hD hK hS xn [2] [] [0, 1, 2] [] [] rfl (by decide) rfl rfl (by decide) (by decide) rfl rfl (aNil hA hS) (aNil hA hS) 2 rfl rfl rfl hl.1 rfl (Nat.le_of_ble_eq_true rfl) dL_law_513 ⟨(Nat.le_of_ble_eq_true rfl), (Nat.le_of_ble_eq_true rfl)⟩ (fun u H locs hφ hP hD hK hS hk => ?_)
  have hP : va_P D vwCl [(h0, .inr (5, [v0, .ref h1, v1, v2, v3, v4, v5, v6, v7, v8])), (h1, .inr (0, [v9, v10, .int 2, v11, v12, v13, v14])), (h2, .inr (6, [.int 2, v16, v17, v18, v19, v20, v21, .int 2, v22, v23, v24, v25, v26, v27, v28, v29, v30, v31, v32, v33, v34, v35, v36, v37, v38, v39, v40]))] H := hP
  have hD : va_D A [(h0, .inr (5, [v0, .ref h1, v1, v2, v3, v4, v5, v6, v7, v8])), (h1, .inr (0, [v9, v10, .int 2, v11, v12, v13, v14])), (h2, .inr (6, [.int 2, v16, v17, v18, v19, v20, v21, .int 2, v22, v23, v24, v25, v26, v27, v28, v29, v30, v31, v32, v33, v34, v35, v36, v37, v38, v39, v40]))] := hD
  have hK : va_K D vwCl [] s := hK
  refine W.widen (k := 1011) (n := 8904) (Nat.le_of_ble_eq_true rfl) (Nat.le_of_ble_eq_true rfl) ?_
  refine lv_iload hx hb dL_law_516 (lv_at hl 1 rfl) ?_
  refine lv_icmp_eq (tgt := 523) hx hb dL_law_518 (by decide) (fun _ => ?_) (fun c9 => absurd (by decide) c9)
  refine lv_iload hx hb dL_law_523 (lv_at hl 1 rfl) ?_
  refine lv_if_ne (tgt := 539) hx hb dL_law_525 (by decide) (fun _ => ?_) (fun c9 => absurd c9 (by decide))
  refine lv_goto (tgt := 2199) hx hb dL_law_539 (by decide) ?_
  refine W.widen (k := 3000) (n := 30000) (Nat.le_of_ble_eq_true rfl) (Nat.le_of_ble_eq_true rfl) ?_
  exact kk _ _ _ hS (lv_sub hl [2, 6] rfl)
set_option maxHeartbeats 4000000 in
set_option maxRecDepth 100000 in
theorem law_6_10 {p : Program} {e : Env} {s : State} {m : MethodId} {below : List Frame} {meth : Method} {c : Code} (l : Launch) (hlt : l.stackTraces = false) {b : Nat} {xs : Nat → Int32} (hx : p.tables.exec = Jvm.exec) (hb : c.code = cL_law) (hml : c.maxLocals = 9) (hown : s.vm.findClass RL = some m.cls) (hg : ∀ w ∈ GW, w.before #[Value.ref b] s = true) (hXs : va_X b 6 xs s s.heap) (hbl : b < s.heap.size) (D : va_G) {A : Nat → Prop} (hA : ∀ q, s.heap.size ≤ q → A q) (hbA : ¬ A b) (hX : XX A s s.heap) (Q : State → Prop) (h0 : Nat) (h1 : Nat) (h2 : Nat) (h3 : Nat) (v0 : Value) (v1 : Value) (v2 : Value) (v3 : Value) (v4 : Value) (v5 : Value) (v6 : Value) (v7 : Value) (v8 : Value) (v9 : Value) (v10 : Value) (v11 : Value) (v12 : Value) (v13 : Value) (v14 : Value) (v15 : Value) (v16 : Value) (v17 : Value) (v18 : Value) (v19 : Value) (v20 : Value) (v21 : Value) (v22 : Value) (v23 : Value) (v24 : Value) (v25 : Value) (v26 : Value) (v27 : Value) (v28 : Value) (v29 : Value) (v30 : Value) (v31 : Value) (v32 : Value) (v33 : Value) (v34 : Value) (v35 : Value) (v36 : Value) (v37 : Value) (v38 : Value) (v39 : Value) (v40 : Value)  (e1 : xs 1 = 1) (p2 : Int32) (e2 : xs 2 = p2) (bl2 : (-2147483648) ≤ p2.toInt) (bh2 : p2.toInt ≤ (-1)) {H : Heap} {locs : List Loc} {ls : Array Slot} (hP : va_P D vwCl [(h0, .inr (5, [v0, .ref h1, v1, v2, v3, v4, v5, v6, v7, v8])), (h1, .inr (0, [v9, v10, .int 2, v11, v12, v13, v14])), (h2, .inr (6, [v15, v16, v17, v18, v19, v20, v21, .int 2, v22, v23, v24, v25, v26, v27, v28, v29, v30, v31, v32, v33, v34, v35, v36, v37, v38, v39, v40]))] H) (hD : va_D A [(h0, .inr (5, [v0, .ref h1, v1, v2, v3, v4, v5, v6, v7, v8])), (h1, .inr (0, [v9, v10, .int 2, v11, v12, v13, v14])), (h2, .inr (6, [v15, v16, v17, v18, v19, v20, v21, .int 2, v22, v23, v24, v25, v26, v27, v28, v29, v30, v31, v32, v33, v34, v35, v36, v37, v38, v39, v40]))]) (hK : va_K D vwCl [] s) (hS : va_S A s.heap H locs) (hl : lv_has ls 9 [(4, .int 0), (3, .ref h3), (2, .ref h2), (1, .ref h0), (0, .ref b)]) (kk : ∀ (H : Heap) (locs : List Loc) (ls : Array Slot), va_S A s.heap H locs → lv_has ls 9 [(4, .int 0), (0, .ref b)] → W p l e room_1 s m #[Value.ref b] below meth c H locs 3000 30000 Q (F0 m 2199 ls [])) : W p l e room_1 s m #[Value.ref b] below meth c H locs 1010 8898 Q (F0 m 475 ls []) := by
  have d0 : p2.toInt < 0 ∨ 5 < p2.toInt := (by omega)
  have d1 : (lg_cmp p2.toInt64 0) < 0 := lgq1 (by have h0 : (0 : Int64).toInt = 0 := (by decide); have hp2 := i2lI p2; omega)
  refine lv_aload_n hx hb dL_law_475 rfl (lv_at hl 3 rfl) ?_
  refine lv_aload_n hx hb dL_law_476 rfl (lv_at hl 4 rfl) ?_
  refine lv_iload hx hb dL_law_477 (lv_at hl 0 rfl) ?_
  refine lv_iconst (v := 1) hx hb dL_law_479 (by decide) ?_
  refine lv_iadd hx hb dL_law_480 ?_
  refine ti (1) (by decide) ?_
  refine va_sld hx hb hXs hbl hbA hS (vin (by decide)) dL_law_481 ?_
  refine ti 1 e1 ?_
  refine lv_aload_n hx hb dL_law_482 rfl (lv_at hl 4 rfl) ?_
  refine lv_iload hx hb dL_law_483 (lv_at hl 0 rfl) ?_
  refine lv_iconst (v := 2) hx hb dL_law_485 (by decide) ?_
  refine lv_iadd hx hb dL_law_486 ?_
  refine ti (2) (by decide) ?_
  refine va_sld hx hb hXs hbl hbA hS (vin (by decide)) dL_law_487 ?_
  refine ti p2 e2 ?_
  refine lv_aload_n hx hb dL_law_488 rfl (lv_at hl 1 rfl) ?_
  refine cHi (n := 4) (As := [.ref h0, .int 1, .int p2, .ref h3]) (rest := []) (wr := [(h0, .inr (5, [v0, .ref h1, v1, v2, v3, v4, v5, v6, v7, v8])), (h1, .inr (0, [v9, v10, .int 2, v11, v12, v13, v14])), (h2, .inr (6, [v15, v16, v17, v18, v19, v20, v21, .int 2, v22, v23, v24, v25, v26, v27, v28, v29, v30, v31, v32, v33, v34, v35, v36, v37, v38, v39, v40]))]) (tr := []) hx hb hml hown hg okXX (cL_sample_625 l D hlt h0 p2 h3 h1 v0 v1 v2 v3 v4 v5 v6 v7 v8 v9 v10 v11 v12 v13 v14 d0) (mwHS k854 k855 k83 k856) ⟨by decide, by decide, by decide +kernel⟩ ⟨rfl, rfl, (Nat.le_of_ble_eq_true rfl), (Nat.le_of_ble_eq_true rfl)⟩ hP hD hK hS (okXX.2.2 _ _ _ _ hS.2.1 hX) [0, 1] [] [0, 1, 2] [] [] rfl (by decide) rfl rfl (by decide) (by decide) rfl rfl (aNil hA hS) (aNil hA hS) rfl hl.1 rfl (Nat.le_of_ble_eq_true rfl) dL_law_489 ⟨(Nat.le_of_ble_eq_true rfl), (Nat.le_of_ble_eq_true rfl)⟩ (fun u H locs hφ hP hD hK hS hk => ?_)
  have hP : va_P D vwCl [(h0, .inr (5, [v0, .ref h1, v1, v2, v3, v4, v5, v6, v7, v8])), (h1, .inr (0, [v9, v10, .int 2, v11, v12, v13, v14])), (h2, .inr (6, [v15, v16, v17, v18, v19, v20, v21, .int 2, v22, v23, v24, v25, v26, v27, v28, v29, v30, v31, v32, v33, v34, v35, v36, v37, v38, v39, v40]))] H := hP
  have hD : va_D A [(h0, .inr (5, [v0, .ref h1, v1, v2, v3, v4, v5, v6, v7, v8])), (h1, .inr (0, [v9, v10, .int 2, v11, v12, v13, v14])), (h2, .inr (6, [v15, v16, v17, v18, v19, v20, v21, .int 2, v22, v23, v24, v25, v26, v27, v28, v29, v30, v31, v32, v33, v34, v35, v36, v37, v38, v39, v40]))] := hD
  have hK : va_K D vwCl [] s := hK
  refine W.widen (k := 1011) (n := 8904) (Nat.le_of_ble_eq_true rfl) (Nat.le_of_ble_eq_true rfl) ?_
  refine lv_istore (lv' := [(5, .int 2), (4, .int 0), (3, .ref h3), (2, .ref h2), (1, .ref h0), (0, .ref b)]) hx hb dL_law_492 hl (by decide) rfl (fun ls hl => ?_)
  refine lv_aload_n hx hb dL_law_494 rfl (lv_at hl 3 rfl) ?_
  refine lv_aload_n hx hb dL_law_495 rfl (lv_at hl 5 rfl) ?_
  refine lv_iload hx hb dL_law_496 (lv_at hl 1 rfl) ?_
  refine lv_iconst (v := 1) hx hb dL_law_498 (by decide) ?_
  refine lv_iadd hx hb dL_law_499 ?_
  refine ti (1) (by decide) ?_
  refine va_sld hx hb hXs hbl hbA hS (vin (by decide)) dL_law_500 ?_
  refine ti 1 e1 ?_
  refine lv_aload_n hx hb dL_law_501 rfl (lv_at hl 5 rfl) ?_
  refine lv_iload hx hb dL_law_502 (lv_at hl 1 rfl) ?_
  refine lv_iconst (v := 2) hx hb dL_law_504 (by decide) ?_
  refine lv_iadd hx hb dL_law_505 ?_
  refine ti (2) (by decide) ?_
  refine va_sld hx hb hXs hbl hbA hS (vin (by decide)) dL_law_506 ?_
  refine ti p2 e2 ?_
  refine cVl (n := 2) (As := [.int 1, .int p2]) (rest := []) (wr := [(h0, .inr (5, [v0, .ref h1, v1, v2, v3, v4, v5, v6, v7, v8])), (h1, .inr (0, [v9, v10, .int 2, v11, v12, v13, v14]))]) (tr := []) hx hb hml hown hg okN (cX6_sample_80 l D h2 p2 v15 v16 v17 v18 v19 v20 v21 v22 v23 v24 v25 v26 v27 v28 v29 v30 v31 v32 v33 v34 v35 v36 v37 v38 v39 v40 d1) (mwV k1436 k1437 k1438 k92 k1439) ⟨rfl, by decide, by decide, by decide +kernel⟩ ⟨rfl, rfl, (Nat.le_of_ble_eq_true rfl), (Nat.le_of_ble_eq_true rfl)⟩ hP hD hK hS xn [2] [2] [0, 1] [] [] rfl (by decide) rfl rfl (by decide) (by decide) rfl rfl (va_free hD hS hA [2] rfl) (va_free hD hS hA [2] rfl) 2 rfl rfl rfl hl.1 rfl (Nat.le_of_ble_eq_true rfl) dL_law_507 ⟨(Nat.le_of_ble_eq_true rfl), (Nat.le_of_ble_eq_true rfl)⟩ (fun u H locs hφ hP hD hK hS hk => ?_)
  have hP : va_P D vwCl [(h0, .inr (5, [v0, .ref h1, v1, v2, v3, v4, v5, v6, v7, v8])), (h1, .inr (0, [v9, v10, .int 2, v11, v12, v13, v14])), (h2, .inr (6, [.int 2, v16, v17, v18, v19, v20, v21, .int 2, v22, v23, v24, v25, v26, v27, v28, v29, v30, v31, v32, v33, v34, v35, v36, v37, v38, v39, v40]))] H := hP
  have hD : va_D A [(h0, .inr (5, [v0, .ref h1, v1, v2, v3, v4, v5, v6, v7, v8])), (h1, .inr (0, [v9, v10, .int 2, v11, v12, v13, v14])), (h2, .inr (6, [.int 2, v16, v17, v18, v19, v20, v21, .int 2, v22, v23, v24, v25, v26, v27, v28, v29, v30, v31, v32, v33, v34, v35, v36, v37, v38, v39, v40]))] := hD
  have hK : va_K D vwCl [] s := hK
  refine W.widen (k := 1011) (n := 8904) (Nat.le_of_ble_eq_true rfl) (Nat.le_of_ble_eq_true rfl) ?_
  refine lv_lstore (lv' := [(6, .long 0), (5, .int 2), (4, .int 0), (3, .ref h3), (2, .ref h2), (1, .ref h0), (0, .ref b)]) hx hb dL_law_510 hl (by decide) rfl (fun ls hl => ?_)
  refine lv_aload_n hx hb dL_law_512 rfl (lv_at hl 4 rfl) ?_
  refine cVi (n := 0) (As := []) (rest := []) (wr := [(h0, .inr (5, [v0, .ref h1, v1, v2, v3, v4, v5, v6, v7, v8])), (h1, .inr (0, [v9, v10, .int 2, v11, v12, v13, v14])), (h2, .inr (6, [.int 2, v16, v17, v18, v19, v20, v21, .int 2, v22, v23, v24, v25, v26, v27, v28, v29, v30, v31, v32, v33, v34, v35, v36, v37, v38, v39, v40]))]) (tr := []) hx hb hml hown hg okN (cX6_thrown_618 l D h2 v16 v17 v18 v19 v20 v21 (.int 2) v22 v23 v24 v25 v26 v27 v28 v29 v30 v31 v32 v33 v34 v35 v36 v37 v38 v39 v40) (mwV k1301 k1302 k1303 k92 k1304) ⟨rfl, by decide, by decide, by decide +kernel⟩ ⟨rfl, rfl, (Nat.le_of_ble_eq_true rfl), (Nat.le_of_ble_eq_true rfl)⟩ hP hD hK hS xn [2] [] [0, 1, 2] [] [] rfl (by decide) rfl rfl (by decide) (by decide) rfl rfl (aNil hA hS) (aNil hA hS) 2 rfl rfl rfl hl.1 rfl (Nat.le_of_ble_eq_true rfl) dL_law_513 ⟨(Nat.le_of_ble_eq_true rfl), (Nat.le_of_ble_eq_true rfl)⟩ (fun u H locs hφ hP hD hK hS hk => ?_)
  have hP : va_P D vwCl [(h0, .inr (5, [v0, .ref h1, v1, v2, v3, v4, v5, v6, v7, v8])), (h1, .inr (0, [v9, v10, .int 2, v11, v12, v13, v14])), (h2, .inr (6, [.int 2, v16, v17, v18, v19, v20, v21, .int 2, v22, v23, v24, v25, v26, v27, v28, v29, v30, v31, v32, v33, v34, v35, v36, v37, v38, v39, v40]))] H := hP
  have hD : va_D A [(h0, .inr (5, [v0, .ref h1, v1, v2, v3, v4, v5, v6, v7, v8])), (h1, .inr (0, [v9, v10, .int 2, v11, v12, v13, v14])), (h2, .inr (6, [.int 2, v16, v17, v18, v19, v20, v21, .int 2, v22, v23, v24, v25, v26, v27, v28, v29, v30, v31, v32, v33, v34, v35, v36, v37, v38, v39, v40]))] := hD
  have hK : va_K D vwCl [] s := hK
  refine W.widen (k := 1011) (n := 8904) (Nat.le_of_ble_eq_true rfl) (Nat.le_of_ble_eq_true rfl) ?_
  refine lv_iload hx hb dL_law_516 (lv_at hl 1 rfl) ?_
  refine lv_icmp_eq (tgt := 523) hx hb dL_law_518 (by decide) (fun _ => ?_) (fun c9 => absurd (by decide) c9)
  refine lv_iload hx hb dL_law_523 (lv_at hl 1 rfl) ?_
  refine lv_if_ne (tgt := 539) hx hb dL_law_525 (by decide) (fun _ => ?_) (fun c9 => absurd c9 (by decide))
  refine lv_goto (tgt := 2199) hx hb dL_law_539 (by decide) ?_
  refine W.widen (k := 3000) (n := 30000) (Nat.le_of_ble_eq_true rfl) (Nat.le_of_ble_eq_true rfl) ?_
  exact kk _ _ _ hS (lv_sub hl [2, 6] rfl)
set_option maxHeartbeats 4000000 in
set_option maxRecDepth 100000 in
theorem law_6_11 {p : Program} {e : Env} {s : State} {m : MethodId} {below : List Frame} {meth : Method} {c : Code} (l : Launch) (hlt : l.stackTraces = false) {b : Nat} {xs : Nat → Int32} (hx : p.tables.exec = Jvm.exec) (hb : c.code = cL_law) (hml : c.maxLocals = 9) (hown : s.vm.findClass RL = some m.cls) (hg : ∀ w ∈ GW, w.before #[Value.ref b] s = true) (hXs : va_X b 6 xs s s.heap) (hbl : b < s.heap.size) (D : va_G) {A : Nat → Prop} (hA : ∀ q, s.heap.size ≤ q → A q) (hbA : ¬ A b) (hX : XX A s s.heap) (Q : State → Prop) (h0 : Nat) (h1 : Nat) (h2 : Nat) (h3 : Nat) (h4 : Nat) (h5 : Nat) (v0 : Value) (v1 : Value) (v2 : Value) (v3 : Value) (v4 : Value) (v5 : Value) (v6 : Value) (v7 : Value) (v8 : Value) (v9 : Value) (v10 : Value) (v11 : Value) (v12 : Value) (v13 : Value) (f0 : Nat → Int32) (f1 : Nat → Int64) (v14 : Value) (v15 : Value) (v16 : Value) (v17 : Value) (v18 : Value) (v19 : Value) (v20 : Value) (v21 : Value) (v22 : Value) (v23 : Value) (v24 : Value) (v25 : Value) (v26 : Value) (v27 : Value) (v28 : Value) (v29 : Value) (v30 : Value) (v31 : Value) (v32 : Value) (v33 : Value) (v34 : Value) (v35 : Value) (v36 : Value) (v37 : Value) (v38 : Value) (f2 : Nat → Int32) (a0 : ClassId) (a1 : ClassId) (a2 : ClassId) (ef0_1 : f0 1 = 1) (ef2_1 : f2 1 = 1) (e1 : xs 1 = 1) (e2 : xs 2 = 0) {H : Heap} {locs : List Loc} {ls : Array Slot} (hP : va_P D vwCl [(h0, .inr (5, [v0, .ref h1, v1, v2, v3, v4, v5, v6, v7, v8])), (h1, .inr (0, [.ref h2, v9, .int 2, v10, v11, v12, v13])), (h2, .inl (a0, 48, .inl f0)), (h3, .inl (a1, 1, .inr (.inl f1))), (h4, .inr (6, [v14, v15, v16, v17, v18, .ref h5, v19, .int 2, v20, v21, v22, v23, v24, v25, v26, v27, v28, v29, v30, v31, v32, v33, v34, v35, v36, v37, v38])), (h5, .inl (a2, 48, .inl f2))] H) (hD : va_D A [(h0, .inr (5, [v0, .ref h1, v1, v2, v3, v4, v5, v6, v7, v8])), (h1, .inr (0, [.ref h2, v9, .int 2, v10, v11, v12, v13])), (h2, .inl (a0, 48, .inl f0)), (h3, .inl (a1, 1, .inr (.inl f1))), (h4, .inr (6, [v14, v15, v16, v17, v18, .ref h5, v19, .int 2, v20, v21, v22, v23, v24, v25, v26, v27, v28, v29, v30, v31, v32, v33, v34, v35, v36, v37, v38])), (h5, .inl (a2, 48, .inl f2))]) (hK : va_K D vwCl [(a0, .int), (a1, .long), (a2, .int)] s) (hS : va_S A s.heap H locs) (hl : lv_has ls 9 [(4, .int 0), (3, .ref h3), (2, .ref h4), (1, .ref h0), (0, .ref b)]) (kk : ∀ (H : Heap) (locs : List Loc) (ls : Array Slot), va_S A s.heap H locs → lv_has ls 9 [(4, .int 0), (0, .ref b)] → W p l e room_1 s m #[Value.ref b] below meth c H locs 3000 30000 Q (F0 m 2199 ls [])) : W p l e room_1 s m #[Value.ref b] below meth c H locs 1010 8898 Q (F0 m 475 ls []) := by
  refine lv_aload_n hx hb dL_law_475 rfl (lv_at hl 3 rfl) ?_
  refine lv_aload_n hx hb dL_law_476 rfl (lv_at hl 4 rfl) ?_
  refine lv_iload hx hb dL_law_477 (lv_at hl 0 rfl) ?_
  refine lv_iconst (v := 1) hx hb dL_law_479 (by decide) ?_
  refine lv_iadd hx hb dL_law_480 ?_
  refine ti (1) (by decide) ?_
  refine va_sld hx hb hXs hbl hbA hS (vin (by decide)) dL_law_481 ?_
  refine ti 1 e1 ?_
  refine lv_aload_n hx hb dL_law_482 rfl (lv_at hl 4 rfl) ?_
  refine lv_iload hx hb dL_law_483 (lv_at hl 0 rfl) ?_
  refine lv_iconst (v := 2) hx hb dL_law_485 (by decide) ?_
  refine lv_iadd hx hb dL_law_486 ?_
  refine ti (2) (by decide) ?_
  refine va_sld hx hb hXs hbl hbA hS (vin (by decide)) dL_law_487 ?_
  refine ti 0 e2 ?_
  refine lv_aload_n hx hb dL_law_488 rfl (lv_at hl 1 rfl) ?_
  refine cHi (n := 4) (As := [.ref h0, .int 1, .int 0, .ref h3]) (rest := []) (wr := [(h4, .inr (6, [v14, v15, v16, v17, v18, .ref h5, v19, .int 2, v20, v21, v22, v23, v24, v25, v26, v27, v28, v29, v30, v31, v32, v33, v34, v35, v36, v37, v38])), (h5, .inl (a2, 48, .inl f2))]) (tr := [(a2, .int)]) hx hb hml hown hg okN (cL_sample_626 l D h0 h3 h1 h2 v0 v1 v2 v3 v4 v5 v6 v7 v8 f1 v9 v10 v11 v12 v13 f0 a1 a0 ef0_1) (mwHS k854 k855 k83 k856) ⟨by decide, by decide, by decide +kernel⟩ ⟨rfl, rfl, (Nat.le_of_ble_eq_true rfl), (Nat.le_of_ble_eq_true rfl)⟩ hP hD hK hS xn [0, 3, 1, 2] [0, 3, 1, 2] [4, 5] [1, 0] [2] rfl (by decide) rfl rfl (by decide) (by decide) rfl rfl (va_free hD hS hA [0, 3, 1, 2] rfl) (va_free hD hS hA [0, 3, 1, 2] rfl) rfl hl.1 rfl (Nat.le_of_ble_eq_true rfl) dL_law_489 ⟨(Nat.le_of_ble_eq_true rfl), (Nat.le_of_ble_eq_true rfl)⟩ (fun u H locs hφ hP hD hK hS hk => ?_)
  have hP : va_P D vwCl [(h4, .inr (6, [v14, v15, v16, v17, v18, .ref h5, v19, .int 2, v20, v21, v22, v23, v24, v25, v26, v27, v28, v29, v30, v31, v32, v33, v34, v35, v36, v37, v38])), (h5, .inl (a2, 48, .inl f2)), (h0, .inr (5, [v0, .ref h1, v1, v2, v3, v4, v5, v6, v7, v8])), (h3, .inl (a1, 1, .inr (.inl (vp_updL f1 0 1)))), (h1, .inr (0, [.ref h2, v9, .int 2, v10, v11, v12, v13])), (h2, .inl (a0, 48, .inl f0))] H := hP
  have hD : va_D A [(h4, .inr (6, [v14, v15, v16, v17, v18, .ref h5, v19, .int 2, v20, v21, v22, v23, v24, v25, v26, v27, v28, v29, v30, v31, v32, v33, v34, v35, v36, v37, v38])), (h5, .inl (a2, 48, .inl f2)), (h0, .inr (5, [v0, .ref h1, v1, v2, v3, v4, v5, v6, v7, v8])), (h3, .inl (a1, 1, .inr (.inl (vp_updL f1 0 1)))), (h1, .inr (0, [.ref h2, v9, .int 2, v10, v11, v12, v13])), (h2, .inl (a0, 48, .inl f0))] := hD
  have hK : va_K D vwCl [(a2, .int), (a1, .long), (a0, .int)] s := hK
  refine W.widen (k := 1010) (n := 8898) (Nat.le_of_ble_eq_true rfl) (Nat.le_of_ble_eq_true rfl) ?_
  refine lv_istore (lv' := [(5, .int 0), (4, .int 0), (3, .ref h3), (2, .ref h4), (1, .ref h0), (0, .ref b)]) hx hb dL_law_492 hl (by decide) rfl (fun ls hl => ?_)
  refine lv_aload_n hx hb dL_law_494 rfl (lv_at hl 3 rfl) ?_
  refine lv_aload_n hx hb dL_law_495 rfl (lv_at hl 5 rfl) ?_
  refine lv_iload hx hb dL_law_496 (lv_at hl 1 rfl) ?_
  refine lv_iconst (v := 1) hx hb dL_law_498 (by decide) ?_
  refine lv_iadd hx hb dL_law_499 ?_
  refine ti (1) (by decide) ?_
  refine va_sld hx hb hXs hbl hbA hS (vin (by decide)) dL_law_500 ?_
  refine ti 1 e1 ?_
  refine lv_aload_n hx hb dL_law_501 rfl (lv_at hl 5 rfl) ?_
  refine lv_iload hx hb dL_law_502 (lv_at hl 1 rfl) ?_
  refine lv_iconst (v := 2) hx hb dL_law_504 (by decide) ?_
  refine lv_iadd hx hb dL_law_505 ?_
  refine ti (2) (by decide) ?_
  refine va_sld hx hb hXs hbl hbA hS (vin (by decide)) dL_law_506 ?_
  refine ti 0 e2 ?_
  refine cVl (n := 2) (As := [.int 1, .int 0]) (rest := []) (wr := [(h0, .inr (5, [v0, .ref h1, v1, v2, v3, v4, v5, v6, v7, v8])), (h3, .inl (a1, 1, .inr (.inl (vp_updL f1 0 1)))), (h1, .inr (0, [.ref h2, v9, .int 2, v10, v11, v12, v13])), (h2, .inl (a0, 48, .inl f0))]) (tr := [(a1, .long), (a0, .int)]) hx hb hml hown hg okN (cX6_sample_83 l D h4 h5 v14 v15 v16 v17 v18 v19 v20 v21 v22 v23 v24 v25 v26 v27 v28 v29 v30 v31 v32 v33 v34 v35 v36 v37 v38 f2 a2 ef2_1) (mwV k1436 k1437 k1438 k92 k1439) ⟨rfl, by decide, by decide, by decide +kernel⟩ ⟨rfl, rfl, (Nat.le_of_ble_eq_true rfl), (Nat.le_of_ble_eq_true rfl)⟩ hP hD hK hS xn [0, 1] [0, 1] [2, 3, 4, 5] [0] [1, 2] rfl (by decide) rfl rfl (by decide) (by decide) rfl rfl (va_free hD hS hA [0, 1] rfl) (va_free hD hS hA [0, 1] rfl) 0 rfl rfl rfl hl.1 rfl (Nat.le_of_ble_eq_true rfl) dL_law_507 ⟨(Nat.le_of_ble_eq_true rfl), (Nat.le_of_ble_eq_true rfl)⟩ (fun u H locs hφ hP hD hK hS hk => ?_)
  have hP : va_P D vwCl [(h0, .inr (5, [v0, .ref h1, v1, v2, v3, v4, v5, v6, v7, v8])), (h3, .inl (a1, 1, .inr (.inl (vp_updL f1 0 1)))), (h1, .inr (0, [.ref h2, v9, .int 2, v10, v11, v12, v13])), (h2, .inl (a0, 48, .inl f0)), (h4, .inr (6, [.int 0, v15, v16, v17, v18, .ref h5, v19, .int 2, v20, v21, v22, v23, v24, v25, v26, v27, v28, v29, v30, v31, v32, v33, v34, v35, v36, v37, v38])), (h5, .inl (a2, 48, .inl f2))] H := hP
  have hD : va_D A [(h0, .inr (5, [v0, .ref h1, v1, v2, v3, v4, v5, v6, v7, v8])), (h3, .inl (a1, 1, .inr (.inl (vp_updL f1 0 1)))), (h1, .inr (0, [.ref h2, v9, .int 2, v10, v11, v12, v13])), (h2, .inl (a0, 48, .inl f0)), (h4, .inr (6, [.int 0, v15, v16, v17, v18, .ref h5, v19, .int 2, v20, v21, v22, v23, v24, v25, v26, v27, v28, v29, v30, v31, v32, v33, v34, v35, v36, v37, v38])), (h5, .inl (a2, 48, .inl f2))] := hD
  have hK : va_K D vwCl [(a1, .long), (a0, .int), (a2, .int)] s := hK
  refine W.widen (k := 1010) (n := 8898) (Nat.le_of_ble_eq_true rfl) (Nat.le_of_ble_eq_true rfl) ?_
  refine lv_lstore (lv' := [(6, .long 1), (5, .int 0), (4, .int 0), (3, .ref h3), (2, .ref h4), (1, .ref h0), (0, .ref b)]) hx hb dL_law_510 hl (by decide) rfl (fun ls hl => ?_)
  refine lv_aload_n hx hb dL_law_512 rfl (lv_at hl 4 rfl) ?_
  refine cVi (n := 0) (As := []) (rest := []) (wr := [(h0, .inr (5, [v0, .ref h1, v1, v2, v3, v4, v5, v6, v7, v8])), (h3, .inl (a1, 1, .inr (.inl (vp_updL f1 0 1)))), (h1, .inr (0, [.ref h2, v9, .int 2, v10, v11, v12, v13])), (h2, .inl (a0, 48, .inl f0)), (h4, .inr (6, [.int 0, v15, v16, v17, v18, .ref h5, v19, .int 2, v20, v21, v22, v23, v24, v25, v26, v27, v28, v29, v30, v31, v32, v33, v34, v35, v36, v37, v38])), (h5, .inl (a2, 48, .inl f2))]) (tr := [(a1, .long), (a0, .int), (a2, .int)]) hx hb hml hown hg okN (cX6_thrown_1 l D h4 v15 v16 v17 v18 (.ref h5) v19 (.int 2) v20 v21 v22 v23 v24 v25 v26 v27 v28 v29 v30 v31 v32 v33 v34 v35 v36 v37 v38) (mwV k1301 k1302 k1303 k92 k1304) ⟨rfl, by decide, by decide, by decide +kernel⟩ ⟨rfl, rfl, (Nat.le_of_ble_eq_true rfl), (Nat.le_of_ble_eq_true rfl)⟩ hP hD hK hS xn [4] [] [0, 1, 2, 3, 4, 5] [] [0, 1, 2] rfl (by decide) rfl rfl (by decide) (by decide) rfl rfl (aNil hA hS) (aNil hA hS) 4 rfl rfl rfl hl.1 rfl (Nat.le_of_ble_eq_true rfl) dL_law_513 ⟨(Nat.le_of_ble_eq_true rfl), (Nat.le_of_ble_eq_true rfl)⟩ (fun u H locs hφ hP hD hK hS hk => ?_)
  have hP : va_P D vwCl [(h0, .inr (5, [v0, .ref h1, v1, v2, v3, v4, v5, v6, v7, v8])), (h3, .inl (a1, 1, .inr (.inl (vp_updL f1 0 1)))), (h1, .inr (0, [.ref h2, v9, .int 2, v10, v11, v12, v13])), (h2, .inl (a0, 48, .inl f0)), (h4, .inr (6, [.int 0, v15, v16, v17, v18, .ref h5, v19, .int 2, v20, v21, v22, v23, v24, v25, v26, v27, v28, v29, v30, v31, v32, v33, v34, v35, v36, v37, v38])), (h5, .inl (a2, 48, .inl f2))] H := hP
  have hD : va_D A [(h0, .inr (5, [v0, .ref h1, v1, v2, v3, v4, v5, v6, v7, v8])), (h3, .inl (a1, 1, .inr (.inl (vp_updL f1 0 1)))), (h1, .inr (0, [.ref h2, v9, .int 2, v10, v11, v12, v13])), (h2, .inl (a0, 48, .inl f0)), (h4, .inr (6, [.int 0, v15, v16, v17, v18, .ref h5, v19, .int 2, v20, v21, v22, v23, v24, v25, v26, v27, v28, v29, v30, v31, v32, v33, v34, v35, v36, v37, v38])), (h5, .inl (a2, 48, .inl f2))] := hD
  have hK : va_K D vwCl [(a1, .long), (a0, .int), (a2, .int)] s := hK
  refine W.widen (k := 1010) (n := 8898) (Nat.le_of_ble_eq_true rfl) (Nat.le_of_ble_eq_true rfl) ?_
  refine lv_iload hx hb dL_law_516 (lv_at hl 1 rfl) ?_
  refine lv_icmp_eq (tgt := 523) hx hb dL_law_518 (by decide) (fun _ => ?_) (fun c9 => absurd (by decide) c9)
  refine lv_iload hx hb dL_law_523 (lv_at hl 1 rfl) ?_
  refine lv_if_ne (tgt := 539) hx hb dL_law_525 (by decide) (fun c9 => absurd (by decide) c9) (fun _ => ?_)
  refine lv_aload_n hx hb dL_law_528 rfl (lv_at hl 3 rfl) ?_
  refine lv_iconst (v := 0) hx hb dL_law_529 (by decide) ?_
  refine aldL hx hb hK hP 1 0 rfl rfl 0 (by decide) (vin (by decide)) (v := 1) rfl dL_law_530 ?_
  refine lv_lload hx hb dL_law_531 (lv_at hl 0 rfl) ?_
  refine W.lcmp hx hb dL_law_533 ?_
  refine ti (0) (by decide) ?_
  refine lv_if_eq (tgt := 539) hx hb dL_law_534 (by decide) (fun _ => ?_) (fun c9 => absurd (by decide) c9)
  refine lv_goto (tgt := 2199) hx hb dL_law_539 (by decide) ?_
  refine W.widen (k := 3000) (n := 30000) (Nat.le_of_ble_eq_true rfl) (Nat.le_of_ble_eq_true rfl) ?_
  exact kk _ _ _ hS (lv_sub hl [2, 6] rfl)
set_option maxHeartbeats 4000000 in
set_option maxRecDepth 100000 in
theorem law_6_12 {p : Program} {e : Env} {s : State} {m : MethodId} {below : List Frame} {meth : Method} {c : Code} (l : Launch) (hlt : l.stackTraces = false) {b : Nat} {xs : Nat → Int32} (hx : p.tables.exec = Jvm.exec) (hb : c.code = cL_law) (hml : c.maxLocals = 9) (hown : s.vm.findClass RL = some m.cls) (hg : ∀ w ∈ GW, w.before #[Value.ref b] s = true) (hXs : va_X b 6 xs s s.heap) (hbl : b < s.heap.size) (D : va_G) {A : Nat → Prop} (hA : ∀ q, s.heap.size ≤ q → A q) (hbA : ¬ A b) (hX : XX A s s.heap) (Q : State → Prop) (h0 : Nat) (h1 : Nat) (h2 : Nat) (h3 : Nat) (h4 : Nat) (h5 : Nat) (v0 : Value) (v1 : Value) (v2 : Value) (v3 : Value) (v4 : Value) (v5 : Value) (v6 : Value) (v7 : Value) (v8 : Value) (v9 : Value) (v10 : Value) (v11 : Value) (v12 : Value) (v13 : Value) (f0 : Nat → Int32) (f1 : Nat → Int64) (v14 : Value) (v15 : Value) (v16 : Value) (v17 : Value) (v18 : Value) (v19 : Value) (v20 : Value) (v21 : Value) (v22 : Value) (v23 : Value) (v24 : Value) (v25 : Value) (v26 : Value) (v27 : Value) (v28 : Value) (v29 : Value) (v30 : Value) (v31 : Value) (v32 : Value) (v33 : Value) (v34 : Value) (v35 : Value) (v36 : Value) (v37 : Value) (v38 : Value) (f2 : Nat → Int32) (a0 : ClassId) (a1 : ClassId) (a2 : ClassId) (ef0_1 : f0 1 = 0) (ef2_1 : f2 1 = 0) (e1 : xs 1 = 1) (e2 : xs 2 = 1) {H : Heap} {locs : List Loc} {ls : Array Slot} (hP : va_P D vwCl [(h0, .inr (5, [v0, .ref h1, v1, v2, v3, v4, v5, v6, v7, v8])), (h1, .inr (0, [v9, .ref h2, .int 2, v10, v11, v12, v13])), (h2, .inl (a0, 48, .inl f0)), (h3, .inl (a1, 1, .inr (.inl f1))), (h4, .inr (6, [v14, v15, v16, v17, v18, v19, .ref h5, .int 2, v20, v21, v22, v23, v24, v25, v26, v27, v28, v29, v30, v31, v32, v33, v34, v35, v36, v37, v38])), (h5, .inl (a2, 48, .inl f2))] H) (hD : va_D A [(h0, .inr (5, [v0, .ref h1, v1, v2, v3, v4, v5, v6, v7, v8])), (h1, .inr (0, [v9, .ref h2, .int 2, v10, v11, v12, v13])), (h2, .inl (a0, 48, .inl f0)), (h3, .inl (a1, 1, .inr (.inl f1))), (h4, .inr (6, [v14, v15, v16, v17, v18, v19, .ref h5, .int 2, v20, v21, v22, v23, v24, v25, v26, v27, v28, v29, v30, v31, v32, v33, v34, v35, v36, v37, v38])), (h5, .inl (a2, 48, .inl f2))]) (hK : va_K D vwCl [(a0, .int), (a1, .long), (a2, .int)] s) (hS : va_S A s.heap H locs) (hl : lv_has ls 9 [(4, .int 0), (3, .ref h3), (2, .ref h4), (1, .ref h0), (0, .ref b)]) (kk : ∀ (H : Heap) (locs : List Loc) (ls : Array Slot), va_S A s.heap H locs → lv_has ls 9 [(4, .int 0), (0, .ref b)] → W p l e room_1 s m #[Value.ref b] below meth c H locs 3000 30000 Q (F0 m 2199 ls [])) : W p l e room_1 s m #[Value.ref b] below meth c H locs 1010 8898 Q (F0 m 475 ls []) := by
  refine lv_aload_n hx hb dL_law_475 rfl (lv_at hl 3 rfl) ?_
  refine lv_aload_n hx hb dL_law_476 rfl (lv_at hl 4 rfl) ?_
  refine lv_iload hx hb dL_law_477 (lv_at hl 0 rfl) ?_
  refine lv_iconst (v := 1) hx hb dL_law_479 (by decide) ?_
  refine lv_iadd hx hb dL_law_480 ?_
  refine ti (1) (by decide) ?_
  refine va_sld hx hb hXs hbl hbA hS (vin (by decide)) dL_law_481 ?_
  refine ti 1 e1 ?_
  refine lv_aload_n hx hb dL_law_482 rfl (lv_at hl 4 rfl) ?_
  refine lv_iload hx hb dL_law_483 (lv_at hl 0 rfl) ?_
  refine lv_iconst (v := 2) hx hb dL_law_485 (by decide) ?_
  refine lv_iadd hx hb dL_law_486 ?_
  refine ti (2) (by decide) ?_
  refine va_sld hx hb hXs hbl hbA hS (vin (by decide)) dL_law_487 ?_
  refine ti 1 e2 ?_
  refine lv_aload_n hx hb dL_law_488 rfl (lv_at hl 1 rfl) ?_
  refine cHi (n := 4) (As := [.ref h0, .int 1, .int 1, .ref h3]) (rest := []) (wr := [(h4, .inr (6, [v14, v15, v16, v17, v18, v19, .ref h5, .int 2, v20, v21, v22, v23, v24, v25, v26, v27, v28, v29, v30, v31, v32, v33, v34, v35, v36, v37, v38])), (h5, .inl (a2, 48, .inl f2))]) (tr := [(a2, .int)]) hx hb hml hown hg okN (cL_sample_627 l D h0 h3 h1 h2 v0 v1 v2 v3 v4 v5 v6 v7 v8 f1 v9 v10 v11 v12 v13 f0 a1 a0 ef0_1) (mwHS k854 k855 k83 k856) ⟨by decide, by decide, by decide +kernel⟩ ⟨rfl, rfl, (Nat.le_of_ble_eq_true rfl), (Nat.le_of_ble_eq_true rfl)⟩ hP hD hK hS xn [0, 3, 1, 2] [0, 3, 1, 2] [4, 5] [1, 0] [2] rfl (by decide) rfl rfl (by decide) (by decide) rfl rfl (va_free hD hS hA [0, 3, 1, 2] rfl) (va_free hD hS hA [0, 3, 1, 2] rfl) rfl hl.1 rfl (Nat.le_of_ble_eq_true rfl) dL_law_489 ⟨(Nat.le_of_ble_eq_true rfl), (Nat.le_of_ble_eq_true rfl)⟩ (fun u H locs hφ hP hD hK hS hk => ?_)
  have hP : va_P D vwCl [(h4, .inr (6, [v14, v15, v16, v17, v18, v19, .ref h5, .int 2, v20, v21, v22, v23, v24, v25, v26, v27, v28, v29, v30, v31, v32, v33, v34, v35, v36, v37, v38])), (h5, .inl (a2, 48, .inl f2)), (h0, .inr (5, [v0, .ref h1, v1, v2, v3, v4, v5, v6, v7, v8])), (h3, .inl (a1, 1, .inr (.inl (vp_updL f1 0 0)))), (h1, .inr (0, [v9, .ref h2, .int 2, v10, v11, v12, v13])), (h2, .inl (a0, 48, .inl f0))] H := hP
  have hD : va_D A [(h4, .inr (6, [v14, v15, v16, v17, v18, v19, .ref h5, .int 2, v20, v21, v22, v23, v24, v25, v26, v27, v28, v29, v30, v31, v32, v33, v34, v35, v36, v37, v38])), (h5, .inl (a2, 48, .inl f2)), (h0, .inr (5, [v0, .ref h1, v1, v2, v3, v4, v5, v6, v7, v8])), (h3, .inl (a1, 1, .inr (.inl (vp_updL f1 0 0)))), (h1, .inr (0, [v9, .ref h2, .int 2, v10, v11, v12, v13])), (h2, .inl (a0, 48, .inl f0))] := hD
  have hK : va_K D vwCl [(a2, .int), (a1, .long), (a0, .int)] s := hK
  refine W.widen (k := 1010) (n := 8898) (Nat.le_of_ble_eq_true rfl) (Nat.le_of_ble_eq_true rfl) ?_
  refine lv_istore (lv' := [(5, .int 0), (4, .int 0), (3, .ref h3), (2, .ref h4), (1, .ref h0), (0, .ref b)]) hx hb dL_law_492 hl (by decide) rfl (fun ls hl => ?_)
  refine lv_aload_n hx hb dL_law_494 rfl (lv_at hl 3 rfl) ?_
  refine lv_aload_n hx hb dL_law_495 rfl (lv_at hl 5 rfl) ?_
  refine lv_iload hx hb dL_law_496 (lv_at hl 1 rfl) ?_
  refine lv_iconst (v := 1) hx hb dL_law_498 (by decide) ?_
  refine lv_iadd hx hb dL_law_499 ?_
  refine ti (1) (by decide) ?_
  refine va_sld hx hb hXs hbl hbA hS (vin (by decide)) dL_law_500 ?_
  refine ti 1 e1 ?_
  refine lv_aload_n hx hb dL_law_501 rfl (lv_at hl 5 rfl) ?_
  refine lv_iload hx hb dL_law_502 (lv_at hl 1 rfl) ?_
  refine lv_iconst (v := 2) hx hb dL_law_504 (by decide) ?_
  refine lv_iadd hx hb dL_law_505 ?_
  refine ti (2) (by decide) ?_
  refine va_sld hx hb hXs hbl hbA hS (vin (by decide)) dL_law_506 ?_
  refine ti 1 e2 ?_
  refine cVl (n := 2) (As := [.int 1, .int 1]) (rest := []) (wr := [(h0, .inr (5, [v0, .ref h1, v1, v2, v3, v4, v5, v6, v7, v8])), (h3, .inl (a1, 1, .inr (.inl (vp_updL f1 0 0)))), (h1, .inr (0, [v9, .ref h2, .int 2, v10, v11, v12, v13])), (h2, .inl (a0, 48, .inl f0))]) (tr := [(a1, .long), (a0, .int)]) hx hb hml hown hg okN (cX6_sample_84 l D h4 h5 v14 v15 v16 v17 v18 v19 v20 v21 v22 v23 v24 v25 v26 v27 v28 v29 v30 v31 v32 v33 v34 v35 v36 v37 v38 f2 a2 ef2_1) (mwV k1436 k1437 k1438 k92 k1439) ⟨rfl, by decide, by decide, by decide +kernel⟩ ⟨rfl, rfl, (Nat.le_of_ble_eq_true rfl), (Nat.le_of_ble_eq_true rfl)⟩ hP hD hK hS xn [0, 1] [0, 1] [2, 3, 4, 5] [0] [1, 2] rfl (by decide) rfl rfl (by decide) (by decide) rfl rfl (va_free hD hS hA [0, 1] rfl) (va_free hD hS hA [0, 1] rfl) 0 rfl rfl rfl hl.1 rfl (Nat.le_of_ble_eq_true rfl) dL_law_507 ⟨(Nat.le_of_ble_eq_true rfl), (Nat.le_of_ble_eq_true rfl)⟩ (fun u H locs hφ hP hD hK hS hk => ?_)
  have hP : va_P D vwCl [(h0, .inr (5, [v0, .ref h1, v1, v2, v3, v4, v5, v6, v7, v8])), (h3, .inl (a1, 1, .inr (.inl (vp_updL f1 0 0)))), (h1, .inr (0, [v9, .ref h2, .int 2, v10, v11, v12, v13])), (h2, .inl (a0, 48, .inl f0)), (h4, .inr (6, [.int 0, v15, v16, v17, v18, v19, .ref h5, .int 2, v20, v21, v22, v23, v24, v25, v26, v27, v28, v29, v30, v31, v32, v33, v34, v35, v36, v37, v38])), (h5, .inl (a2, 48, .inl f2))] H := hP
  have hD : va_D A [(h0, .inr (5, [v0, .ref h1, v1, v2, v3, v4, v5, v6, v7, v8])), (h3, .inl (a1, 1, .inr (.inl (vp_updL f1 0 0)))), (h1, .inr (0, [v9, .ref h2, .int 2, v10, v11, v12, v13])), (h2, .inl (a0, 48, .inl f0)), (h4, .inr (6, [.int 0, v15, v16, v17, v18, v19, .ref h5, .int 2, v20, v21, v22, v23, v24, v25, v26, v27, v28, v29, v30, v31, v32, v33, v34, v35, v36, v37, v38])), (h5, .inl (a2, 48, .inl f2))] := hD
  have hK : va_K D vwCl [(a1, .long), (a0, .int), (a2, .int)] s := hK
  refine W.widen (k := 1010) (n := 8898) (Nat.le_of_ble_eq_true rfl) (Nat.le_of_ble_eq_true rfl) ?_
  refine lv_lstore (lv' := [(6, .long 0), (5, .int 0), (4, .int 0), (3, .ref h3), (2, .ref h4), (1, .ref h0), (0, .ref b)]) hx hb dL_law_510 hl (by decide) rfl (fun ls hl => ?_)
  refine lv_aload_n hx hb dL_law_512 rfl (lv_at hl 4 rfl) ?_
  refine cVi (n := 0) (As := []) (rest := []) (wr := [(h0, .inr (5, [v0, .ref h1, v1, v2, v3, v4, v5, v6, v7, v8])), (h3, .inl (a1, 1, .inr (.inl (vp_updL f1 0 0)))), (h1, .inr (0, [v9, .ref h2, .int 2, v10, v11, v12, v13])), (h2, .inl (a0, 48, .inl f0)), (h4, .inr (6, [.int 0, v15, v16, v17, v18, v19, .ref h5, .int 2, v20, v21, v22, v23, v24, v25, v26, v27, v28, v29, v30, v31, v32, v33, v34, v35, v36, v37, v38])), (h5, .inl (a2, 48, .inl f2))]) (tr := [(a1, .long), (a0, .int), (a2, .int)]) hx hb hml hown hg okN (cX6_thrown_1 l D h4 v15 v16 v17 v18 v19 (.ref h5) (.int 2) v20 v21 v22 v23 v24 v25 v26 v27 v28 v29 v30 v31 v32 v33 v34 v35 v36 v37 v38) (mwV k1301 k1302 k1303 k92 k1304) ⟨rfl, by decide, by decide, by decide +kernel⟩ ⟨rfl, rfl, (Nat.le_of_ble_eq_true rfl), (Nat.le_of_ble_eq_true rfl)⟩ hP hD hK hS xn [4] [] [0, 1, 2, 3, 4, 5] [] [0, 1, 2] rfl (by decide) rfl rfl (by decide) (by decide) rfl rfl (aNil hA hS) (aNil hA hS) 4 rfl rfl rfl hl.1 rfl (Nat.le_of_ble_eq_true rfl) dL_law_513 ⟨(Nat.le_of_ble_eq_true rfl), (Nat.le_of_ble_eq_true rfl)⟩ (fun u H locs hφ hP hD hK hS hk => ?_)
  have hP : va_P D vwCl [(h0, .inr (5, [v0, .ref h1, v1, v2, v3, v4, v5, v6, v7, v8])), (h3, .inl (a1, 1, .inr (.inl (vp_updL f1 0 0)))), (h1, .inr (0, [v9, .ref h2, .int 2, v10, v11, v12, v13])), (h2, .inl (a0, 48, .inl f0)), (h4, .inr (6, [.int 0, v15, v16, v17, v18, v19, .ref h5, .int 2, v20, v21, v22, v23, v24, v25, v26, v27, v28, v29, v30, v31, v32, v33, v34, v35, v36, v37, v38])), (h5, .inl (a2, 48, .inl f2))] H := hP
  have hD : va_D A [(h0, .inr (5, [v0, .ref h1, v1, v2, v3, v4, v5, v6, v7, v8])), (h3, .inl (a1, 1, .inr (.inl (vp_updL f1 0 0)))), (h1, .inr (0, [v9, .ref h2, .int 2, v10, v11, v12, v13])), (h2, .inl (a0, 48, .inl f0)), (h4, .inr (6, [.int 0, v15, v16, v17, v18, v19, .ref h5, .int 2, v20, v21, v22, v23, v24, v25, v26, v27, v28, v29, v30, v31, v32, v33, v34, v35, v36, v37, v38])), (h5, .inl (a2, 48, .inl f2))] := hD
  have hK : va_K D vwCl [(a1, .long), (a0, .int), (a2, .int)] s := hK
  refine W.widen (k := 1010) (n := 8898) (Nat.le_of_ble_eq_true rfl) (Nat.le_of_ble_eq_true rfl) ?_
  refine lv_iload hx hb dL_law_516 (lv_at hl 1 rfl) ?_
  refine lv_icmp_eq (tgt := 523) hx hb dL_law_518 (by decide) (fun _ => ?_) (fun c9 => absurd (by decide) c9)
  refine lv_iload hx hb dL_law_523 (lv_at hl 1 rfl) ?_
  refine lv_if_ne (tgt := 539) hx hb dL_law_525 (by decide) (fun c9 => absurd (by decide) c9) (fun _ => ?_)
  refine lv_aload_n hx hb dL_law_528 rfl (lv_at hl 3 rfl) ?_
  refine lv_iconst (v := 0) hx hb dL_law_529 (by decide) ?_
  refine aldL hx hb hK hP 1 0 rfl rfl 0 (by decide) (vin (by decide)) (v := 0) rfl dL_law_530 ?_
  refine lv_lload hx hb dL_law_531 (lv_at hl 0 rfl) ?_
  refine W.lcmp hx hb dL_law_533 ?_
  refine ti (0) (by decide) ?_
  refine lv_if_eq (tgt := 539) hx hb dL_law_534 (by decide) (fun _ => ?_) (fun c9 => absurd (by decide) c9)
  refine lv_goto (tgt := 2199) hx hb dL_law_539 (by decide) ?_
  refine W.widen (k := 3000) (n := 30000) (Nat.le_of_ble_eq_true rfl) (Nat.le_of_ble_eq_true rfl) ?_
  exact kk _ _ _ hS (lv_sub hl [2, 6] rfl)
set_option maxHeartbeats 4000000 in
set_option maxRecDepth 100000 in
theorem law_6_13 {p : Program} {e : Env} {s : State} {m : MethodId} {below : List Frame} {meth : Method} {c : Code} (l : Launch) (hlt : l.stackTraces = false) {b : Nat} {xs : Nat → Int32} (hx : p.tables.exec = Jvm.exec) (hb : c.code = cL_law) (hml : c.maxLocals = 9) (hown : s.vm.findClass RL = some m.cls) (hg : ∀ w ∈ GW, w.before #[Value.ref b] s = true) (hXs : va_X b 6 xs s s.heap) (hbl : b < s.heap.size) (D : va_G) {A : Nat → Prop} (hA : ∀ q, s.heap.size ≤ q → A q) (hbA : ¬ A b) (hX : XX A s s.heap) (Q : State → Prop) (h0 : Nat) (h1 : Nat) (h2 : Nat) (h3 : Nat) (h4 : Nat) (h5 : Nat) (h6 : Nat) (v0 : Value) (v1 : Value) (v2 : Value) (v3 : Value) (v4 : Value) (v5 : Value) (v6 : Value) (v7 : Value) (v8 : Value) (v9 : Value) (v10 : Value) (v11 : Value) (v12 : Value) (v13 : Value) (v14 : Value) (v15 : Value) (v16 : Value) (v17 : Value) (v18 : Value) (v19 : Value) (v20 : Value) (v21 : Value) (v22 : Value) (v23 : Value) (v24 : Value) (v25 : Value) (f0 : Nat → Int32) (f1 : Nat → Int64) (v26 : Value) (v27 : Value) (v28 : Value) (v29 : Value) (v30 : Value) (v31 : Value) (v32 : Value) (v33 : Value) (v34 : Value) (v35 : Value) (v36 : Value) (v37 : Value) (v38 : Value) (v39 : Value) (v40 : Value) (v41 : Value) (v42 : Value) (v43 : Value) (v44 : Value) (v45 : Value) (v46 : Value) (v47 : Value) (v48 : Value) (v49 : Value) (v50 : Value) (f2 : Nat → Int64) (a0 : ClassId) (a1 : ClassId) (a2 : ClassId) (ef0_1 : f0 1 = (-1)) (ef2_102 : f2 102 = (-1)) (e1 : xs 1 = 1) (e2 : xs 2 = 2) {H : Heap} {locs : List Loc} {ls : Array Slot} (hP : va_P D vwCl [(h0, .inr (5, [v0, .ref h1, v1, .ref h2, v2, v3, v4, v5, v6, v7])), (h1, .inr (0, [v8, v9, .int 2, v10, v11, v12, v13])), (h2, .inr (1, [v14, v15, v16, .ref h3, v17, v18, v19, v20, v21, v22, v23, v24, v25])), (h3, .inl (a0, 48, .inl f0)), (h4, .inl (a1, 1, .inr (.inl f1))), (h5, .inr (6, [v26, .ref h6, v27, v28, v29, v30, v31, .int 2, v32, v33, v34, v35, v36, v37, v38, v39, v40, v41, v42, v43, v44, v45, v46, v47, v48, v49, v50])), (h6, .inl (a2, 609, .inr (.inl f2)))] H) (hD : va_D A [(h0, .inr (5, [v0, .ref h1, v1, .ref h2, v2, v3, v4, v5, v6, v7])), (h1, .inr (0, [v8, v9, .int 2, v10, v11, v12, v13])), (h2, .inr (1, [v14, v15, v16, .ref h3, v17, v18, v19, v20, v21, v22, v23, v24, v25])), (h3, .inl (a0, 48, .inl f0)), (h4, .inl (a1, 1, .inr (.inl f1))), (h5, .inr (6, [v26, .ref h6, v27, v28, v29, v30, v31, .int 2, v32, v33, v34, v35, v36, v37, v38, v39, v40, v41, v42, v43, v44, v45, v46, v47, v48, v49, v50])), (h6, .inl (a2, 609, .inr (.inl f2)))]) (hK : va_K D vwCl [(a0, .int), (a1, .long), (a2, .long)] s) (hS : va_S A s.heap H locs) (hl : lv_has ls 9 [(4, .int 0), (3, .ref h4), (2, .ref h5), (1, .ref h0), (0, .ref b)]) (kk : ∀ (H : Heap) (locs : List Loc) (ls : Array Slot), va_S A s.heap H locs → lv_has ls 9 [(4, .int 0), (0, .ref b)] → W p l e room_1 s m #[Value.ref b] below meth c H locs 3000 30000 Q (F0 m 2199 ls [])) : W p l e room_1 s m #[Value.ref b] below meth c H locs 1010 8898 Q (F0 m 475 ls []) := by
  refine lv_aload_n hx hb dL_law_475 rfl (lv_at hl 3 rfl) ?_
  refine lv_aload_n hx hb dL_law_476 rfl (lv_at hl 4 rfl) ?_
  refine lv_iload hx hb dL_law_477 (lv_at hl 0 rfl) ?_
  refine lv_iconst (v := 1) hx hb dL_law_479 (by decide) ?_
  refine lv_iadd hx hb dL_law_480 ?_
  refine ti (1) (by decide) ?_
  refine va_sld hx hb hXs hbl hbA hS (vin (by decide)) dL_law_481 ?_
  refine ti 1 e1 ?_
  refine lv_aload_n hx hb dL_law_482 rfl (lv_at hl 4 rfl) ?_
  refine lv_iload hx hb dL_law_483 (lv_at hl 0 rfl) ?_
  refine lv_iconst (v := 2) hx hb dL_law_485 (by decide) ?_
  refine lv_iadd hx hb dL_law_486 ?_
  refine ti (2) (by decide) ?_
  refine va_sld hx hb hXs hbl hbA hS (vin (by decide)) dL_law_487 ?_
  refine ti 2 e2 ?_
  refine lv_aload_n hx hb dL_law_488 rfl (lv_at hl 1 rfl) ?_
  refine cHi (n := 4) (As := [.ref h0, .int 1, .int 2, .ref h4]) (rest := []) (wr := [(h5, .inr (6, [v26, .ref h6, v27, v28, v29, v30, v31, .int 2, v32, v33, v34, v35, v36, v37, v38, v39, v40, v41, v42, v43, v44, v45, v46, v47, v48, v49, v50])), (h6, .inl (a2, 609, .inr (.inl f2)))]) (tr := [(a2, .long)]) hx hb hml hown hg okN (cL_sample_628 l D h0 h4 h1 h2 h3 v0 v1 v2 v3 v4 v5 v6 v7 f1 v8 v9 v10 v11 v12 v13 v14 v15 v16 v17 v18 v19 v20 v21 v22 v23 v24 v25 f0 a1 a0 ef0_1) (mwHS k854 k855 k83 k856) ⟨by decide, by decide, by decide +kernel⟩ ⟨rfl, rfl, (Nat.le_of_ble_eq_true rfl), (Nat.le_of_ble_eq_true rfl)⟩ hP hD hK hS xn [0, 4, 1, 2, 3] [0, 4, 1, 2, 3] [5, 6] [1, 0] [2] rfl (by decide) rfl rfl (by decide) (by decide) rfl rfl (va_free hD hS hA [0, 4, 1, 2, 3] rfl) (va_free hD hS hA [0, 4, 1, 2, 3] rfl) rfl hl.1 rfl (Nat.le_of_ble_eq_true rfl) dL_law_489 ⟨(Nat.le_of_ble_eq_true rfl), (Nat.le_of_ble_eq_true rfl)⟩ (fun u H locs hφ hP hD hK hS hk => ?_)
  have hP : va_P D vwCl [(h5, .inr (6, [v26, .ref h6, v27, v28, v29, v30, v31, .int 2, v32, v33, v34, v35, v36, v37, v38, v39, v40, v41, v42, v43, v44, v45, v46, v47, v48, v49, v50])), (h6, .inl (a2, 609, .inr (.inl f2))), (h0, .inr (5, [v0, .ref h1, v1, .ref h2, v2, v3, v4, v5, v6, v7])), (h4, .inl (a1, 1, .inr (.inl (vp_updL f1 0 1)))), (h1, .inr (0, [v8, v9, .int 2, v10, v11, v12, v13])), (h2, .inr (1, [v14, v15, v16, .ref h3, v17, v18, v19, v20, v21, v22, v23, v24, v25])), (h3, .inl (a0, 48, .inl f0))] H := hP
  have hD : va_D A [(h5, .inr (6, [v26, .ref h6, v27, v28, v29, v30, v31, .int 2, v32, v33, v34, v35, v36, v37, v38, v39, v40, v41, v42, v43, v44, v45, v46, v47, v48, v49, v50])), (h6, .inl (a2, 609, .inr (.inl f2))), (h0, .inr (5, [v0, .ref h1, v1, .ref h2, v2, v3, v4, v5, v6, v7])), (h4, .inl (a1, 1, .inr (.inl (vp_updL f1 0 1)))), (h1, .inr (0, [v8, v9, .int 2, v10, v11, v12, v13])), (h2, .inr (1, [v14, v15, v16, .ref h3, v17, v18, v19, v20, v21, v22, v23, v24, v25])), (h3, .inl (a0, 48, .inl f0))] := hD
  have hK : va_K D vwCl [(a2, .long), (a1, .long), (a0, .int)] s := hK
  refine W.widen (k := 1010) (n := 8898) (Nat.le_of_ble_eq_true rfl) (Nat.le_of_ble_eq_true rfl) ?_
  refine lv_istore (lv' := [(5, .int 0), (4, .int 0), (3, .ref h4), (2, .ref h5), (1, .ref h0), (0, .ref b)]) hx hb dL_law_492 hl (by decide) rfl (fun ls hl => ?_)
  refine lv_aload_n hx hb dL_law_494 rfl (lv_at hl 3 rfl) ?_
  refine lv_aload_n hx hb dL_law_495 rfl (lv_at hl 5 rfl) ?_
  refine lv_iload hx hb dL_law_496 (lv_at hl 1 rfl) ?_
  refine lv_iconst (v := 1) hx hb dL_law_498 (by decide) ?_
  refine lv_iadd hx hb dL_law_499 ?_
  refine ti (1) (by decide) ?_
  refine va_sld hx hb hXs hbl hbA hS (vin (by decide)) dL_law_500 ?_
  refine ti 1 e1 ?_
  refine lv_aload_n hx hb dL_law_501 rfl (lv_at hl 5 rfl) ?_
  refine lv_iload hx hb dL_law_502 (lv_at hl 1 rfl) ?_
  refine lv_iconst (v := 2) hx hb dL_law_504 (by decide) ?_
  refine lv_iadd hx hb dL_law_505 ?_
  refine ti (2) (by decide) ?_
  refine va_sld hx hb hXs hbl hbA hS (vin (by decide)) dL_law_506 ?_
  refine ti 2 e2 ?_
  refine cVl (n := 2) (As := [.int 1, .int 2]) (rest := []) (wr := [(h0, .inr (5, [v0, .ref h1, v1, .ref h2, v2, v3, v4, v5, v6, v7])), (h4, .inl (a1, 1, .inr (.inl (vp_updL f1 0 1)))), (h1, .inr (0, [v8, v9, .int 2, v10, v11, v12, v13])), (h2, .inr (1, [v14, v15, v16, .ref h3, v17, v18, v19, v20, v21, v22, v23, v24, v25])), (h3, .inl (a0, 48, .inl f0))]) (tr := [(a1, .long), (a0, .int)]) hx hb hml hown hg okN (cX6_sample_85 l D h5 h6 v26 v27 v28 v29 v30 v31 v32 v33 v34 v35 v36 v37 v38 v39 v40 v41 v42 v43 v44 v45 v46 v47 v48 v49 v50 f2 a2 ef2_102) (mwV k1436 k1437 k1438 k92 k1439) ⟨rfl, by decide, by decide, by decide +kernel⟩ ⟨rfl, rfl, (Nat.le_of_ble_eq_true rfl), (Nat.le_of_ble_eq_true rfl)⟩ hP hD hK hS xn [0, 1] [0, 1] [2, 3, 4, 5, 6] [0] [1, 2] rfl (by decide) rfl rfl (by decide) (by decide) rfl rfl (va_free hD hS hA [0, 1] rfl) (va_free hD hS hA [0, 1] rfl) 0 rfl rfl rfl hl.1 rfl (Nat.le_of_ble_eq_true rfl) dL_law_507 ⟨(Nat.le_of_ble_eq_true rfl), (Nat.le_of_ble_eq_true rfl)⟩ (fun u H locs hφ hP hD hK hS hk => ?_)
  have hP : va_P D vwCl [(h0, .inr (5, [v0, .ref h1, v1, .ref h2, v2, v3, v4, v5, v6, v7])), (h4, .inl (a1, 1, .inr (.inl (vp_updL f1 0 1)))), (h1, .inr (0, [v8, v9, .int 2, v10, v11, v12, v13])), (h2, .inr (1, [v14, v15, v16, .ref h3, v17, v18, v19, v20, v21, v22, v23, v24, v25])), (h3, .inl (a0, 48, .inl f0)), (h5, .inr (6, [.int 0, .ref h6, v27, v28, v29, v30, v31, .int 2, v32, v33, v34, v35, v36, v37, v38, v39, v40, v41, v42, v43, v44, v45, v46, v47, v48, v49, v50])), (h6, .inl (a2, 609, .inr (.inl f2)))] H := hP
  have hD : va_D A [(h0, .inr (5, [v0, .ref h1, v1, .ref h2, v2, v3, v4, v5, v6, v7])), (h4, .inl (a1, 1, .inr (.inl (vp_updL f1 0 1)))), (h1, .inr (0, [v8, v9, .int 2, v10, v11, v12, v13])), (h2, .inr (1, [v14, v15, v16, .ref h3, v17, v18, v19, v20, v21, v22, v23, v24, v25])), (h3, .inl (a0, 48, .inl f0)), (h5, .inr (6, [.int 0, .ref h6, v27, v28, v29, v30, v31, .int 2, v32, v33, v34, v35, v36, v37, v38, v39, v40, v41, v42, v43, v44, v45, v46, v47, v48, v49, v50])), (h6, .inl (a2, 609, .inr (.inl f2)))] := hD
  have hK : va_K D vwCl [(a1, .long), (a0, .int), (a2, .long)] s := hK
  refine W.widen (k := 1010) (n := 8898) (Nat.le_of_ble_eq_true rfl) (Nat.le_of_ble_eq_true rfl) ?_
  refine lv_lstore (lv' := [(6, .long 1), (5, .int 0), (4, .int 0), (3, .ref h4), (2, .ref h5), (1, .ref h0), (0, .ref b)]) hx hb dL_law_510 hl (by decide) rfl (fun ls hl => ?_)
  refine lv_aload_n hx hb dL_law_512 rfl (lv_at hl 4 rfl) ?_
  refine cVi (n := 0) (As := []) (rest := []) (wr := [(h0, .inr (5, [v0, .ref h1, v1, .ref h2, v2, v3, v4, v5, v6, v7])), (h4, .inl (a1, 1, .inr (.inl (vp_updL f1 0 1)))), (h1, .inr (0, [v8, v9, .int 2, v10, v11, v12, v13])), (h2, .inr (1, [v14, v15, v16, .ref h3, v17, v18, v19, v20, v21, v22, v23, v24, v25])), (h3, .inl (a0, 48, .inl f0)), (h5, .inr (6, [.int 0, .ref h6, v27, v28, v29, v30, v31, .int 2, v32, v33, v34, v35, v36, v37, v38, v39, v40, v41, v42, v43, v44, v45, v46, v47, v48, v49, v50])), (h6, .inl (a2, 609, .inr (.inl f2)))]) (tr := [(a1, .long), (a0, .int), (a2, .long)]) hx hb hml hown hg okN (cX6_thrown_1 l D h5 (.ref h6) v27 v28 v29 v30 v31 (.int 2) v32 v33 v34 v35 v36 v37 v38 v39 v40 v41 v42 v43 v44 v45 v46 v47 v48 v49 v50) (mwV k1301 k1302 k1303 k92 k1304) ⟨rfl, by decide, by decide, by decide +kernel⟩ ⟨rfl, rfl, (Nat.le_of_ble_eq_true rfl), (Nat.le_of_ble_eq_true rfl)⟩ hP hD hK hS xn [5] [] [0, 1, 2, 3, 4, 5, 6] [] [0, 1, 2] rfl (by decide) rfl rfl (by decide) (by decide) rfl rfl (aNil hA hS) (aNil hA hS) 5 rfl rfl rfl hl.1 rfl (Nat.le_of_ble_eq_true rfl) dL_law_513 ⟨(Nat.le_of_ble_eq_true rfl), (Nat.le_of_ble_eq_true rfl)⟩ (fun u H locs hφ hP hD hK hS hk => ?_)
  have hP : va_P D vwCl [(h0, .inr (5, [v0, .ref h1, v1, .ref h2, v2, v3, v4, v5, v6, v7])), (h4, .inl (a1, 1, .inr (.inl (vp_updL f1 0 1)))), (h1, .inr (0, [v8, v9, .int 2, v10, v11, v12, v13])), (h2, .inr (1, [v14, v15, v16, .ref h3, v17, v18, v19, v20, v21, v22, v23, v24, v25])), (h3, .inl (a0, 48, .inl f0)), (h5, .inr (6, [.int 0, .ref h6, v27, v28, v29, v30, v31, .int 2, v32, v33, v34, v35, v36, v37, v38, v39, v40, v41, v42, v43, v44, v45, v46, v47, v48, v49, v50])), (h6, .inl (a2, 609, .inr (.inl f2)))] H := hP
  have hD : va_D A [(h0, .inr (5, [v0, .ref h1, v1, .ref h2, v2, v3, v4, v5, v6, v7])), (h4, .inl (a1, 1, .inr (.inl (vp_updL f1 0 1)))), (h1, .inr (0, [v8, v9, .int 2, v10, v11, v12, v13])), (h2, .inr (1, [v14, v15, v16, .ref h3, v17, v18, v19, v20, v21, v22, v23, v24, v25])), (h3, .inl (a0, 48, .inl f0)), (h5, .inr (6, [.int 0, .ref h6, v27, v28, v29, v30, v31, .int 2, v32, v33, v34, v35, v36, v37, v38, v39, v40, v41, v42, v43, v44, v45, v46, v47, v48, v49, v50])), (h6, .inl (a2, 609, .inr (.inl f2)))] := hD
  have hK : va_K D vwCl [(a1, .long), (a0, .int), (a2, .long)] s := hK
  refine W.widen (k := 1010) (n := 8898) (Nat.le_of_ble_eq_true rfl) (Nat.le_of_ble_eq_true rfl) ?_
  refine lv_iload hx hb dL_law_516 (lv_at hl 1 rfl) ?_
  refine lv_icmp_eq (tgt := 523) hx hb dL_law_518 (by decide) (fun _ => ?_) (fun c9 => absurd (by decide) c9)
  refine lv_iload hx hb dL_law_523 (lv_at hl 1 rfl) ?_
  refine lv_if_ne (tgt := 539) hx hb dL_law_525 (by decide) (fun c9 => absurd (by decide) c9) (fun _ => ?_)
  refine lv_aload_n hx hb dL_law_528 rfl (lv_at hl 3 rfl) ?_
  refine lv_iconst (v := 0) hx hb dL_law_529 (by decide) ?_
  refine aldL hx hb hK hP 1 0 rfl rfl 0 (by decide) (vin (by decide)) (v := 1) rfl dL_law_530 ?_
  refine lv_lload hx hb dL_law_531 (lv_at hl 0 rfl) ?_
  refine W.lcmp hx hb dL_law_533 ?_
  refine ti (0) (by decide) ?_
  refine lv_if_eq (tgt := 539) hx hb dL_law_534 (by decide) (fun _ => ?_) (fun c9 => absurd (by decide) c9)
  refine lv_goto (tgt := 2199) hx hb dL_law_539 (by decide) ?_
  refine W.widen (k := 3000) (n := 30000) (Nat.le_of_ble_eq_true rfl) (Nat.le_of_ble_eq_true rfl) ?_
  exact kk _ _ _ hS (lv_sub hl [2, 6] rfl)
set_option maxHeartbeats 4000000 in
set_option maxRecDepth 100000 in
theorem law_6_14 {p : Program} {e : Env} {s : State} {m : MethodId} {below : List Frame} {meth : Method} {c : Code} (l : Launch) (hlt : l.stackTraces = false) {b : Nat} {xs : Nat → Int32} (hx : p.tables.exec = Jvm.exec) (hb : c.code = cL_law) (hml : c.maxLocals = 9) (hown : s.vm.findClass RL = some m.cls) (hg : ∀ w ∈ GW, w.before #[Value.ref b] s = true) (hXs : va_X b 6 xs s s.heap) (hbl : b < s.heap.size) (D : va_G) {A : Nat → Prop} (hA : ∀ q, s.heap.size ≤ q → A q) (hbA : ¬ A b) (hX : XX A s s.heap) (Q : State → Prop) (h0 : Nat) (h1 : Nat) (h2 : Nat) (h3 : Nat) (h4 : Nat) (h5 : Nat) (h6 : Nat) (h7 : Nat) (h8 : Nat) (v0 : Value) (v1 : Value) (v2 : Value) (v3 : Value) (v4 : Value) (v5 : Value) (v6 : Value) (v7 : Value) (v8 : Value) (v9 : Value) (v10 : Value) (v11 : Value) (v12 : Value) (v13 : Value) (v14 : Value) (v15 : Value) (v16 : Value) (v17 : Value) (v18 : Value) (v19 : Value) (v20 : Value) (v21 : Value) (v22 : Value) (v23 : Value) (v24 : Value) (f0 : Nat → Int32) (f1 : Nat → Option Nat) (v25 : Value) (f2 : Nat → Int64) (v26 : Value) (v27 : Value) (v28 : Value) (v29 : Value) (v30 : Value) (v31 : Value) (v32 : Value) (v33 : Value) (v34 : Value) (v35 : Value) (v36 : Value) (v37 : Value) (v38 : Value) (v39 : Value) (v40 : Value) (v41 : Value) (v42 : Value) (v43 : Value) (v44 : Value) (v45 : Value) (v46 : Value) (v47 : Value) (v48 : Value) (v49 : Value) (v50 : Value) (f3 : Nat → Int64) (a0 : ClassId) (a1 : ClassId) (a2 : ClassId) (a3 : ClassId) (ef0_1 : f0 1 = (-1)) (ef1_1 : f1 1 = some h5) (ef3_6 : f3 6 = 0) (ef3_102 : f3 102 = (-1)) (e1 : xs 1 = 1) (e2 : xs 2 = 3) {H : Heap} {locs : List Loc} {ls : Array Slot} (hP : va_P D vwCl [(h0, .inr (5, [v0, .ref h1, v1, .ref h2, v2, v3, v4, v5, v6, v7])), (h1, .inr (0, [v8, v9, .int 2, v10, v11, v12, v13])), (h2, .inr (1, [v14, .ref h4, v15, .ref h3, v16, v17, v18, v19, v20, v21, v22, v23, v24])), (h3, .inl (a0, 48, .inl f0)), (h4, .inl (a1, 48, .inr (.inr (.inr (.inr f1))))), (h5, .inr (4, [v25, .int 0, .int 0])), (h6, .inl (a2, 1, .inr (.inl f2))), (h7, .inr (6, [v26, .ref h8, v27, v28, v29, v30, v31, .int 2, v32, v33, v34, v35, v36, v37, v38, v39, v40, v41, v42, v43, v44, v45, v46, v47, v48, v49, v50])), (h8, .inl (a3, 609, .inr (.inl f3)))] H) (hD : va_D A [(h0, .inr (5, [v0, .ref h1, v1, .ref h2, v2, v3, v4, v5, v6, v7])), (h1, .inr (0, [v8, v9, .int 2, v10, v11, v12, v13])), (h2, .inr (1, [v14, .ref h4, v15, .ref h3, v16, v17, v18, v19, v20, v21, v22, v23, v24])), (h3, .inl (a0, 48, .inl f0)), (h4, .inl (a1, 48, .inr (.inr (.inr (.inr f1))))), (h5, .inr (4, [v25, .int 0, .int 0])), (h6, .inl (a2, 1, .inr (.inl f2))), (h7, .inr (6, [v26, .ref h8, v27, v28, v29, v30, v31, .int 2, v32, v33, v34, v35, v36, v37, v38, v39, v40, v41, v42, v43, v44, v45, v46, v47, v48, v49, v50])), (h8, .inl (a3, 609, .inr (.inl f3)))]) (hK : va_K D vwCl [(a0, .int), (a1, .object "LiftingSignal$Whole"), (a2, .long), (a3, .long)] s) (hS : va_S A s.heap H locs) (hl : lv_has ls 9 [(4, .int 0), (3, .ref h6), (2, .ref h7), (1, .ref h0), (0, .ref b)]) (kk : ∀ (H : Heap) (locs : List Loc) (ls : Array Slot), va_S A s.heap H locs → lv_has ls 9 [(4, .int 0), (0, .ref b)] → W p l e room_1 s m #[Value.ref b] below meth c H locs 3000 30000 Q (F0 m 2199 ls [])) : W p l e room_1 s m #[Value.ref b] below meth c H locs 1010 8898 Q (F0 m 475 ls []) := by
  refine lv_aload_n hx hb dL_law_475 rfl (lv_at hl 3 rfl) ?_
  refine lv_aload_n hx hb dL_law_476 rfl (lv_at hl 4 rfl) ?_
  refine lv_iload hx hb dL_law_477 (lv_at hl 0 rfl) ?_
  refine lv_iconst (v := 1) hx hb dL_law_479 (by decide) ?_
  refine lv_iadd hx hb dL_law_480 ?_
  refine ti (1) (by decide) ?_
  refine va_sld hx hb hXs hbl hbA hS (vin (by decide)) dL_law_481 ?_
  refine ti 1 e1 ?_
  refine lv_aload_n hx hb dL_law_482 rfl (lv_at hl 4 rfl) ?_
  refine lv_iload hx hb dL_law_483 (lv_at hl 0 rfl) ?_
  refine lv_iconst (v := 2) hx hb dL_law_485 (by decide) ?_
  refine lv_iadd hx hb dL_law_486 ?_
  refine ti (2) (by decide) ?_
  refine va_sld hx hb hXs hbl hbA hS (vin (by decide)) dL_law_487 ?_
  refine ti 3 e2 ?_
  refine lv_aload_n hx hb dL_law_488 rfl (lv_at hl 1 rfl) ?_
  refine cHi (n := 4) (As := [.ref h0, .int 1, .int 3, .ref h6]) (rest := []) (wr := [(h7, .inr (6, [v26, .ref h8, v27, v28, v29, v30, v31, .int 2, v32, v33, v34, v35, v36, v37, v38, v39, v40, v41, v42, v43, v44, v45, v46, v47, v48, v49, v50])), (h8, .inl (a3, 609, .inr (.inl f3)))]) (tr := [(a3, .long)]) hx hb hml hown hg okN (cL_sample_629 l D h0 h6 h1 h2 h3 h4 h5 v0 v1 v2 v3 v4 v5 v6 v7 f2 v8 v9 v10 v11 v12 v13 v14 v15 v16 v17 v18 v19 v20 v21 v22 v23 v24 f0 f1 v25 a2 a0 a1 ef0_1 ef1_1) (mwHS k854 k855 k83 k856) ⟨by decide, by decide, by decide +kernel⟩ ⟨rfl, rfl, (Nat.le_of_ble_eq_true rfl), (Nat.le_of_ble_eq_true rfl)⟩ hP hD hK hS xn [0, 6, 1, 2, 3, 4, 5] [0, 6, 1, 2, 3, 4, 5] [7, 8] [2, 0, 1] [3] rfl (by decide) rfl rfl (by decide) (by decide) rfl rfl (va_free hD hS hA [0, 6, 1, 2, 3, 4, 5] rfl) (va_free hD hS hA [0, 6, 1, 2, 3, 4, 5] rfl) rfl hl.1 rfl (Nat.le_of_ble_eq_true rfl) dL_law_489 ⟨(Nat.le_of_ble_eq_true rfl), (Nat.le_of_ble_eq_true rfl)⟩ (fun u H locs hφ hP hD hK hS hk => ?_)
  have hP : va_P D vwCl [(h7, .inr (6, [v26, .ref h8, v27, v28, v29, v30, v31, .int 2, v32, v33, v34, v35, v36, v37, v38, v39, v40, v41, v42, v43, v44, v45, v46, v47, v48, v49, v50])), (h8, .inl (a3, 609, .inr (.inl f3))), (h0, .inr (5, [v0, .ref h1, v1, .ref h2, v2, v3, v4, v5, v6, v7])), (h6, .inl (a2, 1, .inr (.inl (vp_updL f2 0 0)))), (h1, .inr (0, [v8, v9, .int 2, v10, v11, v12, v13])), (h2, .inr (1, [v14, .ref h4, v15, .ref h3, v16, v17, v18, v19, v20, v21, v22, v23, v24])), (h3, .inl (a0, 48, .inl f0)), (h4, .inl (a1, 48, .inr (.inr (.inr (.inr f1))))), (h5, .inr (4, [v25, .int 0, .int 0]))] H := hP
  have hD : va_D A [(h7, .inr (6, [v26, .ref h8, v27, v28, v29, v30, v31, .int 2, v32, v33, v34, v35, v36, v37, v38, v39, v40, v41, v42, v43, v44, v45, v46, v47, v48, v49, v50])), (h8, .inl (a3, 609, .inr (.inl f3))), (h0, .inr (5, [v0, .ref h1, v1, .ref h2, v2, v3, v4, v5, v6, v7])), (h6, .inl (a2, 1, .inr (.inl (vp_updL f2 0 0)))), (h1, .inr (0, [v8, v9, .int 2, v10, v11, v12, v13])), (h2, .inr (1, [v14, .ref h4, v15, .ref h3, v16, v17, v18, v19, v20, v21, v22, v23, v24])), (h3, .inl (a0, 48, .inl f0)), (h4, .inl (a1, 48, .inr (.inr (.inr (.inr f1))))), (h5, .inr (4, [v25, .int 0, .int 0]))] := hD
  have hK : va_K D vwCl [(a3, .long), (a2, .long), (a0, .int), (a1, .object "LiftingSignal$Whole")] s := hK
  refine W.widen (k := 1010) (n := 8898) (Nat.le_of_ble_eq_true rfl) (Nat.le_of_ble_eq_true rfl) ?_
  refine lv_istore (lv' := [(5, .int 0), (4, .int 0), (3, .ref h6), (2, .ref h7), (1, .ref h0), (0, .ref b)]) hx hb dL_law_492 hl (by decide) rfl (fun ls hl => ?_)
  refine lv_aload_n hx hb dL_law_494 rfl (lv_at hl 3 rfl) ?_
  refine lv_aload_n hx hb dL_law_495 rfl (lv_at hl 5 rfl) ?_
  refine lv_iload hx hb dL_law_496 (lv_at hl 1 rfl) ?_
  refine lv_iconst (v := 1) hx hb dL_law_498 (by decide) ?_
  refine lv_iadd hx hb dL_law_499 ?_
  refine ti (1) (by decide) ?_
  refine va_sld hx hb hXs hbl hbA hS (vin (by decide)) dL_law_500 ?_
  refine ti 1 e1 ?_
  refine lv_aload_n hx hb dL_law_501 rfl (lv_at hl 5 rfl) ?_
  refine lv_iload hx hb dL_law_502 (lv_at hl 1 rfl) ?_
  refine lv_iconst (v := 2) hx hb dL_law_504 (by decide) ?_
  refine lv_iadd hx hb dL_law_505 ?_
  refine ti (2) (by decide) ?_
  refine va_sld hx hb hXs hbl hbA hS (vin (by decide)) dL_law_506 ?_
  refine ti 3 e2 ?_
  refine cVl (n := 2) (As := [.int 1, .int 3]) (rest := []) (wr := [(h0, .inr (5, [v0, .ref h1, v1, .ref h2, v2, v3, v4, v5, v6, v7])), (h6, .inl (a2, 1, .inr (.inl (vp_updL f2 0 0)))), (h1, .inr (0, [v8, v9, .int 2, v10, v11, v12, v13])), (h2, .inr (1, [v14, .ref h4, v15, .ref h3, v16, v17, v18, v19, v20, v21, v22, v23, v24])), (h3, .inl (a0, 48, .inl f0)), (h4, .inl (a1, 48, .inr (.inr (.inr (.inr f1))))), (h5, .inr (4, [v25, .int 0, .int 0]))]) (tr := [(a2, .long), (a0, .int), (a1, .object "LiftingSignal$Whole")]) hx hb hml hown hg okN (cX6_sample_86 l D h7 h8 v26 v27 v28 v29 v30 v31 v32 v33 v34 v35 v36 v37 v38 v39 v40 v41 v42 v43 v44 v45 v46 v47 v48 v49 v50 f3 a3 ef3_6 ef3_102) (mwV k1436 k1437 k1438 k92 k1439) ⟨rfl, by decide, by decide, by decide +kernel⟩ ⟨rfl, rfl, (Nat.le_of_ble_eq_true rfl), (Nat.le_of_ble_eq_true rfl)⟩ hP hD hK hS xn [0, 1] [0, 1] [2, 3, 4, 5, 6, 7, 8] [0] [1, 2, 3] rfl (by decide) rfl rfl (by decide) (by decide) rfl rfl (va_free hD hS hA [0, 1] rfl) (va_free hD hS hA [0, 1] rfl) 0 rfl rfl rfl hl.1 rfl (Nat.le_of_ble_eq_true rfl) dL_law_507 ⟨(Nat.le_of_ble_eq_true rfl), (Nat.le_of_ble_eq_true rfl)⟩ (fun u H locs hφ hP hD hK hS hk => ?_)
  have hP : va_P D vwCl [(h0, .inr (5, [v0, .ref h1, v1, .ref h2, v2, v3, v4, v5, v6, v7])), (h6, .inl (a2, 1, .inr (.inl (vp_updL f2 0 0)))), (h1, .inr (0, [v8, v9, .int 2, v10, v11, v12, v13])), (h2, .inr (1, [v14, .ref h4, v15, .ref h3, v16, v17, v18, v19, v20, v21, v22, v23, v24])), (h3, .inl (a0, 48, .inl f0)), (h4, .inl (a1, 48, .inr (.inr (.inr (.inr f1))))), (h5, .inr (4, [v25, .int 0, .int 0])), (h7, .inr (6, [.int 0, .ref h8, v27, v28, v29, v30, v31, .int 2, v32, v33, v34, v35, v36, v37, v38, v39, v40, v41, v42, v43, v44, v45, v46, v47, v48, v49, v50])), (h8, .inl (a3, 609, .inr (.inl f3)))] H := hP
  have hD : va_D A [(h0, .inr (5, [v0, .ref h1, v1, .ref h2, v2, v3, v4, v5, v6, v7])), (h6, .inl (a2, 1, .inr (.inl (vp_updL f2 0 0)))), (h1, .inr (0, [v8, v9, .int 2, v10, v11, v12, v13])), (h2, .inr (1, [v14, .ref h4, v15, .ref h3, v16, v17, v18, v19, v20, v21, v22, v23, v24])), (h3, .inl (a0, 48, .inl f0)), (h4, .inl (a1, 48, .inr (.inr (.inr (.inr f1))))), (h5, .inr (4, [v25, .int 0, .int 0])), (h7, .inr (6, [.int 0, .ref h8, v27, v28, v29, v30, v31, .int 2, v32, v33, v34, v35, v36, v37, v38, v39, v40, v41, v42, v43, v44, v45, v46, v47, v48, v49, v50])), (h8, .inl (a3, 609, .inr (.inl f3)))] := hD
  have hK : va_K D vwCl [(a2, .long), (a0, .int), (a1, .object "LiftingSignal$Whole"), (a3, .long)] s := hK
  refine W.widen (k := 1010) (n := 8898) (Nat.le_of_ble_eq_true rfl) (Nat.le_of_ble_eq_true rfl) ?_
  refine lv_lstore (lv' := [(6, .long 0), (5, .int 0), (4, .int 0), (3, .ref h6), (2, .ref h7), (1, .ref h0), (0, .ref b)]) hx hb dL_law_510 hl (by decide) rfl (fun ls hl => ?_)
  refine lv_aload_n hx hb dL_law_512 rfl (lv_at hl 4 rfl) ?_
  refine cVi (n := 0) (As := []) (rest := []) (wr := [(h0, .inr (5, [v0, .ref h1, v1, .ref h2, v2, v3, v4, v5, v6, v7])), (h6, .inl (a2, 1, .inr (.inl (vp_updL f2 0 0)))), (h1, .inr (0, [v8, v9, .int 2, v10, v11, v12, v13])), (h2, .inr (1, [v14, .ref h4, v15, .ref h3, v16, v17, v18, v19, v20, v21, v22, v23, v24])), (h3, .inl (a0, 48, .inl f0)), (h4, .inl (a1, 48, .inr (.inr (.inr (.inr f1))))), (h5, .inr (4, [v25, .int 0, .int 0])), (h7, .inr (6, [.int 0, .ref h8, v27, v28, v29, v30, v31, .int 2, v32, v33, v34, v35, v36, v37, v38, v39, v40, v41, v42, v43, v44, v45, v46, v47, v48, v49, v50])), (h8, .inl (a3, 609, .inr (.inl f3)))]) (tr := [(a2, .long), (a0, .int), (a1, .object "LiftingSignal$Whole"), (a3, .long)]) hx hb hml hown hg okN (cX6_thrown_1 l D h7 (.ref h8) v27 v28 v29 v30 v31 (.int 2) v32 v33 v34 v35 v36 v37 v38 v39 v40 v41 v42 v43 v44 v45 v46 v47 v48 v49 v50) (mwV k1301 k1302 k1303 k92 k1304) ⟨rfl, by decide, by decide, by decide +kernel⟩ ⟨rfl, rfl, (Nat.le_of_ble_eq_true rfl), (Nat.le_of_ble_eq_true rfl)⟩ hP hD hK hS xn [7] [] [0, 1, 2, 3, 4, 5, 6, 7, 8] [] [0, 1, 2, 3] rfl (by decide) rfl rfl (by decide) (by decide) rfl rfl (aNil hA hS) (aNil hA hS) 7 rfl rfl rfl hl.1 rfl (Nat.le_of_ble_eq_true rfl) dL_law_513 ⟨(Nat.le_of_ble_eq_true rfl), (Nat.le_of_ble_eq_true rfl)⟩ (fun u H locs hφ hP hD hK hS hk => ?_)
  have hP : va_P D vwCl [(h0, .inr (5, [v0, .ref h1, v1, .ref h2, v2, v3, v4, v5, v6, v7])), (h6, .inl (a2, 1, .inr (.inl (vp_updL f2 0 0)))), (h1, .inr (0, [v8, v9, .int 2, v10, v11, v12, v13])), (h2, .inr (1, [v14, .ref h4, v15, .ref h3, v16, v17, v18, v19, v20, v21, v22, v23, v24])), (h3, .inl (a0, 48, .inl f0)), (h4, .inl (a1, 48, .inr (.inr (.inr (.inr f1))))), (h5, .inr (4, [v25, .int 0, .int 0])), (h7, .inr (6, [.int 0, .ref h8, v27, v28, v29, v30, v31, .int 2, v32, v33, v34, v35, v36, v37, v38, v39, v40, v41, v42, v43, v44, v45, v46, v47, v48, v49, v50])), (h8, .inl (a3, 609, .inr (.inl f3)))] H := hP
  have hD : va_D A [(h0, .inr (5, [v0, .ref h1, v1, .ref h2, v2, v3, v4, v5, v6, v7])), (h6, .inl (a2, 1, .inr (.inl (vp_updL f2 0 0)))), (h1, .inr (0, [v8, v9, .int 2, v10, v11, v12, v13])), (h2, .inr (1, [v14, .ref h4, v15, .ref h3, v16, v17, v18, v19, v20, v21, v22, v23, v24])), (h3, .inl (a0, 48, .inl f0)), (h4, .inl (a1, 48, .inr (.inr (.inr (.inr f1))))), (h5, .inr (4, [v25, .int 0, .int 0])), (h7, .inr (6, [.int 0, .ref h8, v27, v28, v29, v30, v31, .int 2, v32, v33, v34, v35, v36, v37, v38, v39, v40, v41, v42, v43, v44, v45, v46, v47, v48, v49, v50])), (h8, .inl (a3, 609, .inr (.inl f3)))] := hD
  have hK : va_K D vwCl [(a2, .long), (a0, .int), (a1, .object "LiftingSignal$Whole"), (a3, .long)] s := hK
  refine W.widen (k := 1010) (n := 8898) (Nat.le_of_ble_eq_true rfl) (Nat.le_of_ble_eq_true rfl) ?_
  refine lv_iload hx hb dL_law_516 (lv_at hl 1 rfl) ?_
  refine lv_icmp_eq (tgt := 523) hx hb dL_law_518 (by decide) (fun _ => ?_) (fun c9 => absurd (by decide) c9)
  refine lv_iload hx hb dL_law_523 (lv_at hl 1 rfl) ?_
  refine lv_if_ne (tgt := 539) hx hb dL_law_525 (by decide) (fun c9 => absurd (by decide) c9) (fun _ => ?_)
  refine lv_aload_n hx hb dL_law_528 rfl (lv_at hl 3 rfl) ?_
  refine lv_iconst (v := 0) hx hb dL_law_529 (by decide) ?_
  refine aldL hx hb hK hP 1 0 rfl rfl 0 (by decide) (vin (by decide)) (v := 0) rfl dL_law_530 ?_
  refine lv_lload hx hb dL_law_531 (lv_at hl 0 rfl) ?_
  refine W.lcmp hx hb dL_law_533 ?_
  refine ti (0) (by decide) ?_
  refine lv_if_eq (tgt := 539) hx hb dL_law_534 (by decide) (fun _ => ?_) (fun c9 => absurd (by decide) c9)
  refine lv_goto (tgt := 2199) hx hb dL_law_539 (by decide) ?_
  refine W.widen (k := 3000) (n := 30000) (Nat.le_of_ble_eq_true rfl) (Nat.le_of_ble_eq_true rfl) ?_
  exact kk _ _ _ hS (lv_sub hl [2, 6] rfl)
set_option maxHeartbeats 4000000 in
set_option maxRecDepth 100000 in
theorem law_6_15 {p : Program} {e : Env} {s : State} {m : MethodId} {below : List Frame} {meth : Method} {c : Code} (l : Launch) (hlt : l.stackTraces = false) {b : Nat} {xs : Nat → Int32} (hx : p.tables.exec = Jvm.exec) (hb : c.code = cL_law) (hml : c.maxLocals = 9) (hown : s.vm.findClass RL = some m.cls) (hg : ∀ w ∈ GW, w.before #[Value.ref b] s = true) (hXs : va_X b 6 xs s s.heap) (hbl : b < s.heap.size) (D : va_G) {A : Nat → Prop} (hA : ∀ q, s.heap.size ≤ q → A q) (hbA : ¬ A b) (hX : XX A s s.heap) (Q : State → Prop) (h0 : Nat) (h1 : Nat) (h2 : Nat) (h3 : Nat) (h4 : Nat) (h5 : Nat) (h6 : Nat) (v0 : Value) (v1 : Value) (v2 : Value) (v3 : Value) (v4 : Value) (v5 : Value) (v6 : Value) (v7 : Value) (v8 : Value) (v9 : Value) (v10 : Value) (v11 : Value) (v12 : Value) (v13 : Value) (v14 : Value) (v15 : Value) (v16 : Value) (v17 : Value) (v18 : Value) (v19 : Value) (v20 : Value) (v21 : Value) (v22 : Value) (v23 : Value) (v24 : Value) (v25 : Value) (f0 : Nat → Int64) (f1 : Nat → Int64) (v26 : Value) (v27 : Value) (v28 : Value) (v29 : Value) (v30 : Value) (v31 : Value) (v32 : Value) (v33 : Value) (v34 : Value) (v35 : Value) (v36 : Value) (v37 : Value) (v38 : Value) (v39 : Value) (v40 : Value) (v41 : Value) (v42 : Value) (v43 : Value) (v44 : Value) (v45 : Value) (v46 : Value) (v47 : Value) (v48 : Value) (v49 : Value) (v50 : Value) (f2 : Nat → Int64) (a0 : ClassId) (a1 : ClassId) (a2 : ClassId) (ef0_1 : f0 1 = 1) (ef2_54 : f2 54 = 1) (ef2_102 : f2 102 = (-1)) (e1 : xs 1 = 1) (e2 : xs 2 = 4) {H : Heap} {locs : List Loc} {ls : Array Slot} (hP : va_P D vwCl [(h0, .inr (5, [v0, .ref h1, v1, .ref h2, v2, v3, v4, v5, v6, v7])), (h1, .inr (0, [v8, v9, .int 2, v10, v11, v12, v13])), (h2, .inr (1, [v14, v15, .ref h3, v16, v17, v18, v19, v20, v21, v22, v23, v24, v25])), (h3, .inl (a0, 48, .inr (.inl f0))), (h4, .inl (a1, 1, .inr (.inl f1))), (h5, .inr (6, [v26, .ref h6, v27, v28, v29, v30, v31, .int 2, v32, v33, v34, v35, v36, v37, v38, v39, v40, v41, v42, v43, v44, v45, v46, v47, v48, v49, v50])), (h6, .inl (a2, 609, .inr (.inl f2)))] H) (hD : va_D A [(h0, .inr (5, [v0, .ref h1, v1, .ref h2, v2, v3, v4, v5, v6, v7])), (h1, .inr (0, [v8, v9, .int 2, v10, v11, v12, v13])), (h2, .inr (1, [v14, v15, .ref h3, v16, v17, v18, v19, v20, v21, v22, v23, v24, v25])), (h3, .inl (a0, 48, .inr (.inl f0))), (h4, .inl (a1, 1, .inr (.inl f1))), (h5, .inr (6, [v26, .ref h6, v27, v28, v29, v30, v31, .int 2, v32, v33, v34, v35, v36, v37, v38, v39, v40, v41, v42, v43, v44, v45, v46, v47, v48, v49, v50])), (h6, .inl (a2, 609, .inr (.inl f2)))]) (hK : va_K D vwCl [(a0, .long), (a1, .long), (a2, .long)] s) (hS : va_S A s.heap H locs) (hl : lv_has ls 9 [(4, .int 0), (3, .ref h4), (2, .ref h5), (1, .ref h0), (0, .ref b)]) (kk : ∀ (H : Heap) (locs : List Loc) (ls : Array Slot), va_S A s.heap H locs → lv_has ls 9 [(4, .int 0), (0, .ref b)] → W p l e room_1 s m #[Value.ref b] below meth c H locs 3000 30000 Q (F0 m 2199 ls [])) : W p l e room_1 s m #[Value.ref b] below meth c H locs 1010 8898 Q (F0 m 475 ls []) := by
  refine lv_aload_n hx hb dL_law_475 rfl (lv_at hl 3 rfl) ?_
  refine lv_aload_n hx hb dL_law_476 rfl (lv_at hl 4 rfl) ?_
  refine lv_iload hx hb dL_law_477 (lv_at hl 0 rfl) ?_
  refine lv_iconst (v := 1) hx hb dL_law_479 (by decide) ?_
  refine lv_iadd hx hb dL_law_480 ?_
  refine ti (1) (by decide) ?_
  refine va_sld hx hb hXs hbl hbA hS (vin (by decide)) dL_law_481 ?_
  refine ti 1 e1 ?_
  refine lv_aload_n hx hb dL_law_482 rfl (lv_at hl 4 rfl) ?_
  refine lv_iload hx hb dL_law_483 (lv_at hl 0 rfl) ?_
  refine lv_iconst (v := 2) hx hb dL_law_485 (by decide) ?_
  refine lv_iadd hx hb dL_law_486 ?_
  refine ti (2) (by decide) ?_
  refine va_sld hx hb hXs hbl hbA hS (vin (by decide)) dL_law_487 ?_
  refine ti 4 e2 ?_
  refine lv_aload_n hx hb dL_law_488 rfl (lv_at hl 1 rfl) ?_
  refine cHi (n := 4) (As := [.ref h0, .int 1, .int 4, .ref h4]) (rest := []) (wr := [(h5, .inr (6, [v26, .ref h6, v27, v28, v29, v30, v31, .int 2, v32, v33, v34, v35, v36, v37, v38, v39, v40, v41, v42, v43, v44, v45, v46, v47, v48, v49, v50])), (h6, .inl (a2, 609, .inr (.inl f2)))]) (tr := [(a2, .long)]) hx hb hml hown hg okN (cL_sample_630 l D h0 h4 h1 h2 h3 v0 v1 v2 v3 v4 v5 v6 v7 f1 v8 v9 v10 v11 v12 v13 v14 v15 v16 v17 v18 v19 v20 v21 v22 v23 v24 v25 f0 a1 a0 ef0_1) (mwHS k854 k855 k83 k856) ⟨by decide, by decide, by decide +kernel⟩ ⟨rfl, rfl, (Nat.le_of_ble_eq_true rfl), (Nat.le_of_ble_eq_true rfl)⟩ hP hD hK hS xn [0, 4, 1, 2, 3] [0, 4, 1, 2, 3] [5, 6] [1, 0] [2] rfl (by decide) rfl rfl (by decide) (by decide) rfl rfl (va_free hD hS hA [0, 4, 1, 2, 3] rfl) (va_free hD hS hA [0, 4, 1, 2, 3] rfl) rfl hl.1 rfl (Nat.le_of_ble_eq_true rfl) dL_law_489 ⟨(Nat.le_of_ble_eq_true rfl), (Nat.le_of_ble_eq_true rfl)⟩ (fun u H locs hφ hP hD hK hS hk => ?_)
  have hP : va_P D vwCl [(h5, .inr (6, [v26, .ref h6, v27, v28, v29, v30, v31, .int 2, v32, v33, v34, v35, v36, v37, v38, v39, v40, v41, v42, v43, v44, v45, v46, v47, v48, v49, v50])), (h6, .inl (a2, 609, .inr (.inl f2))), (h0, .inr (5, [v0, .ref h1, v1, .ref h2, v2, v3, v4, v5, v6, v7])), (h4, .inl (a1, 1, .inr (.inl (vp_updL f1 0 1)))), (h1, .inr (0, [v8, v9, .int 2, v10, v11, v12, v13])), (h2, .inr (1, [v14, v15, .ref h3, v16, v17, v18, v19, v20, v21, v22, v23, v24, v25])), (h3, .inl (a0, 48, .inr (.inl f0)))] H := hP
  have hD : va_D A [(h5, .inr (6, [v26, .ref h6, v27, v28, v29, v30, v31, .int 2, v32, v33, v34, v35, v36, v37, v38, v39, v40, v41, v42, v43, v44, v45, v46, v47, v48, v49, v50])), (h6, .inl (a2, 609, .inr (.inl f2))), (h0, .inr (5, [v0, .ref h1, v1, .ref h2, v2, v3, v4, v5, v6, v7])), (h4, .inl (a1, 1, .inr (.inl (vp_updL f1 0 1)))), (h1, .inr (0, [v8, v9, .int 2, v10, v11, v12, v13])), (h2, .inr (1, [v14, v15, .ref h3, v16, v17, v18, v19, v20, v21, v22, v23, v24, v25])), (h3, .inl (a0, 48, .inr (.inl f0)))] := hD
  have hK : va_K D vwCl [(a2, .long), (a1, .long), (a0, .long)] s := hK
  refine W.widen (k := 1010) (n := 8898) (Nat.le_of_ble_eq_true rfl) (Nat.le_of_ble_eq_true rfl) ?_
  refine lv_istore (lv' := [(5, .int 0), (4, .int 0), (3, .ref h4), (2, .ref h5), (1, .ref h0), (0, .ref b)]) hx hb dL_law_492 hl (by decide) rfl (fun ls hl => ?_)
  refine lv_aload_n hx hb dL_law_494 rfl (lv_at hl 3 rfl) ?_
  refine lv_aload_n hx hb dL_law_495 rfl (lv_at hl 5 rfl) ?_
  refine lv_iload hx hb dL_law_496 (lv_at hl 1 rfl) ?_
  refine lv_iconst (v := 1) hx hb dL_law_498 (by decide) ?_
  refine lv_iadd hx hb dL_law_499 ?_
  refine ti (1) (by decide) ?_
  refine va_sld hx hb hXs hbl hbA hS (vin (by decide)) dL_law_500 ?_
  refine ti 1 e1 ?_
  refine lv_aload_n hx hb dL_law_501 rfl (lv_at hl 5 rfl) ?_
  refine lv_iload hx hb dL_law_502 (lv_at hl 1 rfl) ?_
  refine lv_iconst (v := 2) hx hb dL_law_504 (by decide) ?_
  refine lv_iadd hx hb dL_law_505 ?_
  refine ti (2) (by decide) ?_
  refine va_sld hx hb hXs hbl hbA hS (vin (by decide)) dL_law_506 ?_
  refine ti 4 e2 ?_
  refine cVl (n := 2) (As := [.int 1, .int 4]) (rest := []) (wr := [(h0, .inr (5, [v0, .ref h1, v1, .ref h2, v2, v3, v4, v5, v6, v7])), (h4, .inl (a1, 1, .inr (.inl (vp_updL f1 0 1)))), (h1, .inr (0, [v8, v9, .int 2, v10, v11, v12, v13])), (h2, .inr (1, [v14, v15, .ref h3, v16, v17, v18, v19, v20, v21, v22, v23, v24, v25])), (h3, .inl (a0, 48, .inr (.inl f0)))]) (tr := [(a1, .long), (a0, .long)]) hx hb hml hown hg okN (cX6_sample_87 l D h5 h6 v26 v27 v28 v29 v30 v31 v32 v33 v34 v35 v36 v37 v38 v39 v40 v41 v42 v43 v44 v45 v46 v47 v48 v49 v50 f2 a2 ef2_54 ef2_102) (mwV k1436 k1437 k1438 k92 k1439) ⟨rfl, by decide, by decide, by decide +kernel⟩ ⟨rfl, rfl, (Nat.le_of_ble_eq_true rfl), (Nat.le_of_ble_eq_true rfl)⟩ hP hD hK hS xn [0, 1] [0, 1] [2, 3, 4, 5, 6] [0] [1, 2] rfl (by decide) rfl rfl (by decide) (by decide) rfl rfl (va_free hD hS hA [0, 1] rfl) (va_free hD hS hA [0, 1] rfl) 0 rfl rfl rfl hl.1 rfl (Nat.le_of_ble_eq_true rfl) dL_law_507 ⟨(Nat.le_of_ble_eq_true rfl), (Nat.le_of_ble_eq_true rfl)⟩ (fun u H locs hφ hP hD hK hS hk => ?_)
  have hP : va_P D vwCl [(h0, .inr (5, [v0, .ref h1, v1, .ref h2, v2, v3, v4, v5, v6, v7])), (h4, .inl (a1, 1, .inr (.inl (vp_updL f1 0 1)))), (h1, .inr (0, [v8, v9, .int 2, v10, v11, v12, v13])), (h2, .inr (1, [v14, v15, .ref h3, v16, v17, v18, v19, v20, v21, v22, v23, v24, v25])), (h3, .inl (a0, 48, .inr (.inl f0))), (h5, .inr (6, [.int 0, .ref h6, v27, v28, v29, v30, v31, .int 2, v32, v33, v34, v35, v36, v37, v38, v39, v40, v41, v42, v43, v44, v45, v46, v47, v48, v49, v50])), (h6, .inl (a2, 609, .inr (.inl f2)))] H := hP
  have hD : va_D A [(h0, .inr (5, [v0, .ref h1, v1, .ref h2, v2, v3, v4, v5, v6, v7])), (h4, .inl (a1, 1, .inr (.inl (vp_updL f1 0 1)))), (h1, .inr (0, [v8, v9, .int 2, v10, v11, v12, v13])), (h2, .inr (1, [v14, v15, .ref h3, v16, v17, v18, v19, v20, v21, v22, v23, v24, v25])), (h3, .inl (a0, 48, .inr (.inl f0))), (h5, .inr (6, [.int 0, .ref h6, v27, v28, v29, v30, v31, .int 2, v32, v33, v34, v35, v36, v37, v38, v39, v40, v41, v42, v43, v44, v45, v46, v47, v48, v49, v50])), (h6, .inl (a2, 609, .inr (.inl f2)))] := hD
  have hK : va_K D vwCl [(a1, .long), (a0, .long), (a2, .long)] s := hK
  refine W.widen (k := 1010) (n := 8898) (Nat.le_of_ble_eq_true rfl) (Nat.le_of_ble_eq_true rfl) ?_
  refine lv_lstore (lv' := [(6, .long 1), (5, .int 0), (4, .int 0), (3, .ref h4), (2, .ref h5), (1, .ref h0), (0, .ref b)]) hx hb dL_law_510 hl (by decide) rfl (fun ls hl => ?_)
  refine lv_aload_n hx hb dL_law_512 rfl (lv_at hl 4 rfl) ?_
  refine cVi (n := 0) (As := []) (rest := []) (wr := [(h0, .inr (5, [v0, .ref h1, v1, .ref h2, v2, v3, v4, v5, v6, v7])), (h4, .inl (a1, 1, .inr (.inl (vp_updL f1 0 1)))), (h1, .inr (0, [v8, v9, .int 2, v10, v11, v12, v13])), (h2, .inr (1, [v14, v15, .ref h3, v16, v17, v18, v19, v20, v21, v22, v23, v24, v25])), (h3, .inl (a0, 48, .inr (.inl f0))), (h5, .inr (6, [.int 0, .ref h6, v27, v28, v29, v30, v31, .int 2, v32, v33, v34, v35, v36, v37, v38, v39, v40, v41, v42, v43, v44, v45, v46, v47, v48, v49, v50])), (h6, .inl (a2, 609, .inr (.inl f2)))]) (tr := [(a1, .long), (a0, .long), (a2, .long)]) hx hb hml hown hg okN (cX6_thrown_1 l D h5 (.ref h6) v27 v28 v29 v30 v31 (.int 2) v32 v33 v34 v35 v36 v37 v38 v39 v40 v41 v42 v43 v44 v45 v46 v47 v48 v49 v50) (mwV k1301 k1302 k1303 k92 k1304) ⟨rfl, by decide, by decide, by decide +kernel⟩ ⟨rfl, rfl, (Nat.le_of_ble_eq_true rfl), (Nat.le_of_ble_eq_true rfl)⟩ hP hD hK hS xn [5] [] [0, 1, 2, 3, 4, 5, 6] [] [0, 1, 2] rfl (by decide) rfl rfl (by decide) (by decide) rfl rfl (aNil hA hS) (aNil hA hS) 5 rfl rfl rfl hl.1 rfl (Nat.le_of_ble_eq_true rfl) dL_law_513 ⟨(Nat.le_of_ble_eq_true rfl), (Nat.le_of_ble_eq_true rfl)⟩ (fun u H locs hφ hP hD hK hS hk => ?_)
  have hP : va_P D vwCl [(h0, .inr (5, [v0, .ref h1, v1, .ref h2, v2, v3, v4, v5, v6, v7])), (h4, .inl (a1, 1, .inr (.inl (vp_updL f1 0 1)))), (h1, .inr (0, [v8, v9, .int 2, v10, v11, v12, v13])), (h2, .inr (1, [v14, v15, .ref h3, v16, v17, v18, v19, v20, v21, v22, v23, v24, v25])), (h3, .inl (a0, 48, .inr (.inl f0))), (h5, .inr (6, [.int 0, .ref h6, v27, v28, v29, v30, v31, .int 2, v32, v33, v34, v35, v36, v37, v38, v39, v40, v41, v42, v43, v44, v45, v46, v47, v48, v49, v50])), (h6, .inl (a2, 609, .inr (.inl f2)))] H := hP
  have hD : va_D A [(h0, .inr (5, [v0, .ref h1, v1, .ref h2, v2, v3, v4, v5, v6, v7])), (h4, .inl (a1, 1, .inr (.inl (vp_updL f1 0 1)))), (h1, .inr (0, [v8, v9, .int 2, v10, v11, v12, v13])), (h2, .inr (1, [v14, v15, .ref h3, v16, v17, v18, v19, v20, v21, v22, v23, v24, v25])), (h3, .inl (a0, 48, .inr (.inl f0))), (h5, .inr (6, [.int 0, .ref h6, v27, v28, v29, v30, v31, .int 2, v32, v33, v34, v35, v36, v37, v38, v39, v40, v41, v42, v43, v44, v45, v46, v47, v48, v49, v50])), (h6, .inl (a2, 609, .inr (.inl f2)))] := hD
  have hK : va_K D vwCl [(a1, .long), (a0, .long), (a2, .long)] s := hK
  refine W.widen (k := 1010) (n := 8898) (Nat.le_of_ble_eq_true rfl) (Nat.le_of_ble_eq_true rfl) ?_
  refine lv_iload hx hb dL_law_516 (lv_at hl 1 rfl) ?_
  refine lv_icmp_eq (tgt := 523) hx hb dL_law_518 (by decide) (fun _ => ?_) (fun c9 => absurd (by decide) c9)
  refine lv_iload hx hb dL_law_523 (lv_at hl 1 rfl) ?_
  refine lv_if_ne (tgt := 539) hx hb dL_law_525 (by decide) (fun c9 => absurd (by decide) c9) (fun _ => ?_)
  refine lv_aload_n hx hb dL_law_528 rfl (lv_at hl 3 rfl) ?_
  refine lv_iconst (v := 0) hx hb dL_law_529 (by decide) ?_
  refine aldL hx hb hK hP 1 0 rfl rfl 0 (by decide) (vin (by decide)) (v := 1) rfl dL_law_530 ?_
  refine lv_lload hx hb dL_law_531 (lv_at hl 0 rfl) ?_
  refine W.lcmp hx hb dL_law_533 ?_
  refine ti (0) (by decide) ?_
  refine lv_if_eq (tgt := 539) hx hb dL_law_534 (by decide) (fun _ => ?_) (fun c9 => absurd (by decide) c9)
  refine lv_goto (tgt := 2199) hx hb dL_law_539 (by decide) ?_
  refine W.widen (k := 3000) (n := 30000) (Nat.le_of_ble_eq_true rfl) (Nat.le_of_ble_eq_true rfl) ?_
  exact kk _ _ _ hS (lv_sub hl [2, 6] rfl)
set_option maxHeartbeats 4000000 in
set_option maxRecDepth 100000 in
theorem law_6_16 {p : Program} {e : Env} {s : State} {m : MethodId} {below : List Frame} {meth : Method} {c : Code} (l : Launch) (hlt : l.stackTraces = false) {b : Nat} {xs : Nat → Int32} (hx : p.tables.exec = Jvm.exec) (hb : c.code = cL_law) (hml : c.maxLocals = 9) (hown : s.vm.findClass RL = some m.cls) (hg : ∀ w ∈ GW, w.before #[Value.ref b] s = true) (hXs : va_X b 6 xs s s.heap) (hbl : b < s.heap.size) (D : va_G) {A : Nat → Prop} (hA : ∀ q, s.heap.size ≤ q → A q) (hbA : ¬ A b) (hX : XX A s s.heap) (Q : State → Prop) (h0 : Nat) (h1 : Nat) (h2 : Nat) (h3 : Nat) (h4 : Nat) (h5 : Nat) (h6 : Nat) (v0 : Value) (v1 : Value) (v2 : Value) (v3 : Value) (v4 : Value) (v5 : Value) (v6 : Value) (v7 : Value) (v8 : Value) (v9 : Value) (v10 : Value) (v11 : Value) (v12 : Value) (v13 : Value) (v14 : Value) (v15 : Value) (v16 : Value) (v17 : Value) (v18 : Value) (v19 : Value) (v20 : Value) (v21 : Value) (v22 : Value) (v23 : Value) (v24 : Value) (v25 : Value) (f0 : Nat → Int32) (f1 : Nat → Int64) (v26 : Value) (v27 : Value) (v28 : Value) (v29 : Value) (v30 : Value) (v31 : Value) (v32 : Value) (v33 : Value) (v34 : Value) (v35 : Value) (v36 : Value) (v37 : Value) (v38 : Value) (v39 : Value) (v40 : Value) (v41 : Value) (v42 : Value) (v43 : Value) (v44 : Value) (v45 : Value) (v46 : Value) (v47 : Value) (v48 : Value) (v49 : Value) (v50 : Value) (f2 : Nat → Int64) (a0 : ClassId) (a1 : ClassId) (a2 : ClassId) (ef0_1 : f0 1 = (-1)) (ef2_102 : f2 102 = (-1)) (e1 : xs 1 = 1) (e2 : xs 2 = 5) {H : Heap} {locs : List Loc} {ls : Array Slot} (hP : va_P D vwCl [(h0, .inr (5, [v0, .ref h1, v1, .ref h2, v2, v3, v4, v5, v6, v7])), (h1, .inr (0, [v8, v9, .int 2, v10, v11, v12, v13])), (h2, .inr (1, [v14, v15, v16, .ref h3, v17, v18, v19, v20, v21, v22, v23, v24, v25])), (h3, .inl (a0, 48, .inl f0)), (h4, .inl (a1, 1, .inr (.inl f1))), (h5, .inr (6, [v26, .ref h6, v27, v28, v29, v30, v31, .int 2, v32, v33, v34, v35, v36, v37, v38, v39, v40, v41, v42, v43, v44, v45, v46, v47, v48, v49, v50])), (h6, .inl (a2, 609, .inr (.inl f2)))] H) (hD : va_D A [(h0, .inr (5, [v0, .ref h1, v1, .ref h2, v2, v3, v4, v5, v6, v7])), (h1, .inr (0, [v8, v9, .int 2, v10, v11, v12, v13])), (h2, .inr (1, [v14, v15, v16, .ref h3, v17, v18, v19, v20, v21, v22, v23, v24, v25])), (h3, .inl (a0, 48, .inl f0)), (h4, .inl (a1, 1, .inr (.inl f1))), (h5, .inr (6, [v26, .ref h6, v27, v28, v29, v30, v31, .int 2, v32, v33, v34, v35, v36, v37, v38, v39, v40, v41, v42, v43, v44, v45, v46, v47, v48, v49, v50])), (h6, .inl (a2, 609, .inr (.inl f2)))]) (hK : va_K D vwCl [(a0, .int), (a1, .long), (a2, .long)] s) (hS : va_S A s.heap H locs) (hl : lv_has ls 9 [(4, .int 0), (3, .ref h4), (2, .ref h5), (1, .ref h0), (0, .ref b)]) (kk : ∀ (H : Heap) (locs : List Loc) (ls : Array Slot), va_S A s.heap H locs → lv_has ls 9 [(4, .int 0), (0, .ref b)] → W p l e room_1 s m #[Value.ref b] below meth c H locs 3000 30000 Q (F0 m 2199 ls [])) : W p l e room_1 s m #[Value.ref b] below meth c H locs 1010 8898 Q (F0 m 475 ls []) := by
  refine lv_aload_n hx hb dL_law_475 rfl (lv_at hl 3 rfl) ?_
  refine lv_aload_n hx hb dL_law_476 rfl (lv_at hl 4 rfl) ?_
  refine lv_iload hx hb dL_law_477 (lv_at hl 0 rfl) ?_
  refine lv_iconst (v := 1) hx hb dL_law_479 (by decide) ?_
  refine lv_iadd hx hb dL_law_480 ?_
  refine ti (1) (by decide) ?_
  refine va_sld hx hb hXs hbl hbA hS (vin (by decide)) dL_law_481 ?_
  refine ti 1 e1 ?_
  refine lv_aload_n hx hb dL_law_482 rfl (lv_at hl 4 rfl) ?_
  refine lv_iload hx hb dL_law_483 (lv_at hl 0 rfl) ?_
  refine lv_iconst (v := 2) hx hb dL_law_485 (by decide) ?_
  refine lv_iadd hx hb dL_law_486 ?_
  refine ti (2) (by decide) ?_
  refine va_sld hx hb hXs hbl hbA hS (vin (by decide)) dL_law_487 ?_
  refine ti 5 e2 ?_
  refine lv_aload_n hx hb dL_law_488 rfl (lv_at hl 1 rfl) ?_
  refine cHi (n := 4) (As := [.ref h0, .int 1, .int 5, .ref h4]) (rest := []) (wr := [(h5, .inr (6, [v26, .ref h6, v27, v28, v29, v30, v31, .int 2, v32, v33, v34, v35, v36, v37, v38, v39, v40, v41, v42, v43, v44, v45, v46, v47, v48, v49, v50])), (h6, .inl (a2, 609, .inr (.inl f2)))]) (tr := [(a2, .long)]) hx hb hml hown hg okN (cL_sample_631 l D h0 h4 h1 h2 h3 v0 v1 v2 v3 v4 v5 v6 v7 f1 v8 v9 v10 v11 v12 v13 v14 v15 v16 v17 v18 v19 v20 v21 v22 v23 v24 v25 f0 a1 a0 ef0_1) (mwHS k854 k855 k83 k856) ⟨by decide, by decide, by decide +kernel⟩ ⟨rfl, rfl, (Nat.le_of_ble_eq_true rfl), (Nat.le_of_ble_eq_true rfl)⟩ hP hD hK hS xn [0, 4, 1, 2, 3] [0, 4, 1, 2, 3] [5, 6] [1, 0] [2] rfl (by decide) rfl rfl (by decide) (by decide) rfl rfl (va_free hD hS hA [0, 4, 1, 2, 3] rfl) (va_free hD hS hA [0, 4, 1, 2, 3] rfl) rfl hl.1 rfl (Nat.le_of_ble_eq_true rfl) dL_law_489 ⟨(Nat.le_of_ble_eq_true rfl), (Nat.le_of_ble_eq_true rfl)⟩ (fun u H locs hφ hP hD hK hS hk => ?_)
  have hP : va_P D vwCl [(h5, .inr (6, [v26, .ref h6, v27, v28, v29, v30, v31, .int 2, v32, v33, v34, v35, v36, v37, v38, v39, v40, v41, v42, v43, v44, v45, v46, v47, v48, v49, v50])), (h6, .inl (a2, 609, .inr (.inl f2))), (h0, .inr (5, [v0, .ref h1, v1, .ref h2, v2, v3, v4, v5, v6, v7])), (h4, .inl (a1, 1, .inr (.inl (vp_updL f1 0 (-1))))), (h1, .inr (0, [v8, v9, .int 2, v10, v11, v12, v13])), (h2, .inr (1, [v14, v15, v16, .ref h3, v17, v18, v19, v20, v21, v22, v23, v24, v25])), (h3, .inl (a0, 48, .inl f0))] H := hP
  have hD : va_D A [(h5, .inr (6, [v26, .ref h6, v27, v28, v29, v30, v31, .int 2, v32, v33, v34, v35, v36, v37, v38, v39, v40, v41, v42, v43, v44, v45, v46, v47, v48, v49, v50])), (h6, .inl (a2, 609, .inr (.inl f2))), (h0, .inr (5, [v0, .ref h1, v1, .ref h2, v2, v3, v4, v5, v6, v7])), (h4, .inl (a1, 1, .inr (.inl (vp_updL f1 0 (-1))))), (h1, .inr (0, [v8, v9, .int 2, v10, v11, v12, v13])), (h2, .inr (1, [v14, v15, v16, .ref h3, v17, v18, v19, v20, v21, v22, v23, v24, v25])), (h3, .inl (a0, 48, .inl f0))] := hD
  have hK : va_K D vwCl [(a2, .long), (a1, .long), (a0, .int)] s := hK
  refine W.widen (k := 1010) (n := 8898) (Nat.le_of_ble_eq_true rfl) (Nat.le_of_ble_eq_true rfl) ?_
  refine lv_istore (lv' := [(5, .int 0), (4, .int 0), (3, .ref h4), (2, .ref h5), (1, .ref h0), (0, .ref b)]) hx hb dL_law_492 hl (by decide) rfl (fun ls hl => ?_)
  refine lv_aload_n hx hb dL_law_494 rfl (lv_at hl 3 rfl) ?_
  refine lv_aload_n hx hb dL_law_495 rfl (lv_at hl 5 rfl) ?_
  refine lv_iload hx hb dL_law_496 (lv_at hl 1 rfl) ?_
  refine lv_iconst (v := 1) hx hb dL_law_498 (by decide) ?_
  refine lv_iadd hx hb dL_law_499 ?_
  refine ti (1) (by decide) ?_
  refine va_sld hx hb hXs hbl hbA hS (vin (by decide)) dL_law_500 ?_
  refine ti 1 e1 ?_
  refine lv_aload_n hx hb dL_law_501 rfl (lv_at hl 5 rfl) ?_
  refine lv_iload hx hb dL_law_502 (lv_at hl 1 rfl) ?_
  refine lv_iconst (v := 2) hx hb dL_law_504 (by decide) ?_
  refine lv_iadd hx hb dL_law_505 ?_
  refine ti (2) (by decide) ?_
  refine va_sld hx hb hXs hbl hbA hS (vin (by decide)) dL_law_506 ?_
  refine ti 5 e2 ?_
  refine cVl (n := 2) (As := [.int 1, .int 5]) (rest := []) (wr := [(h0, .inr (5, [v0, .ref h1, v1, .ref h2, v2, v3, v4, v5, v6, v7])), (h4, .inl (a1, 1, .inr (.inl (vp_updL f1 0 (-1))))), (h1, .inr (0, [v8, v9, .int 2, v10, v11, v12, v13])), (h2, .inr (1, [v14, v15, v16, .ref h3, v17, v18, v19, v20, v21, v22, v23, v24, v25])), (h3, .inl (a0, 48, .inl f0))]) (tr := [(a1, .long), (a0, .int)]) hx hb hml hown hg okN (cX6_sample_88 l D h5 h6 v26 v27 v28 v29 v30 v31 v32 v33 v34 v35 v36 v37 v38 v39 v40 v41 v42 v43 v44 v45 v46 v47 v48 v49 v50 f2 a2 ef2_102) (mwV k1436 k1437 k1438 k92 k1439) ⟨rfl, by decide, by decide, by decide +kernel⟩ ⟨rfl, rfl, (Nat.le_of_ble_eq_true rfl), (Nat.le_of_ble_eq_true rfl)⟩ hP hD hK hS xn [0, 1] [0, 1] [2, 3, 4, 5, 6] [0] [1, 2] rfl (by decide) rfl rfl (by decide) (by decide) rfl rfl (va_free hD hS hA [0, 1] rfl) (va_free hD hS hA [0, 1] rfl) 0 rfl rfl rfl hl.1 rfl (Nat.le_of_ble_eq_true rfl) dL_law_507 ⟨(Nat.le_of_ble_eq_true rfl), (Nat.le_of_ble_eq_true rfl)⟩ (fun u H locs hφ hP hD hK hS hk => ?_)
  have hP : va_P D vwCl [(h0, .inr (5, [v0, .ref h1, v1, .ref h2, v2, v3, v4, v5, v6, v7])), (h4, .inl (a1, 1, .inr (.inl (vp_updL f1 0 (-1))))), (h1, .inr (0, [v8, v9, .int 2, v10, v11, v12, v13])), (h2, .inr (1, [v14, v15, v16, .ref h3, v17, v18, v19, v20, v21, v22, v23, v24, v25])), (h3, .inl (a0, 48, .inl f0)), (h5, .inr (6, [.int 0, .ref h6, v27, v28, v29, v30, v31, .int 2, v32, v33, v34, v35, v36, v37, v38, v39, v40, v41, v42, v43, v44, v45, v46, v47, v48, v49, v50])), (h6, .inl (a2, 609, .inr (.inl f2)))] H := hP
  have hD : va_D A [(h0, .inr (5, [v0, .ref h1, v1, .ref h2, v2, v3, v4, v5, v6, v7])), (h4, .inl (a1, 1, .inr (.inl (vp_updL f1 0 (-1))))), (h1, .inr (0, [v8, v9, .int 2, v10, v11, v12, v13])), (h2, .inr (1, [v14, v15, v16, .ref h3, v17, v18, v19, v20, v21, v22, v23, v24, v25])), (h3, .inl (a0, 48, .inl f0)), (h5, .inr (6, [.int 0, .ref h6, v27, v28, v29, v30, v31, .int 2, v32, v33, v34, v35, v36, v37, v38, v39, v40, v41, v42, v43, v44, v45, v46, v47, v48, v49, v50])), (h6, .inl (a2, 609, .inr (.inl f2)))] := hD
  have hK : va_K D vwCl [(a1, .long), (a0, .int), (a2, .long)] s := hK
  refine W.widen (k := 1010) (n := 8898) (Nat.le_of_ble_eq_true rfl) (Nat.le_of_ble_eq_true rfl) ?_
  refine lv_lstore (lv' := [(6, .long (-1)), (5, .int 0), (4, .int 0), (3, .ref h4), (2, .ref h5), (1, .ref h0), (0, .ref b)]) hx hb dL_law_510 hl (by decide) rfl (fun ls hl => ?_)
  refine lv_aload_n hx hb dL_law_512 rfl (lv_at hl 4 rfl) ?_
  refine cVi (n := 0) (As := []) (rest := []) (wr := [(h0, .inr (5, [v0, .ref h1, v1, .ref h2, v2, v3, v4, v5, v6, v7])), (h4, .inl (a1, 1, .inr (.inl (vp_updL f1 0 (-1))))), (h1, .inr (0, [v8, v9, .int 2, v10, v11, v12, v13])), (h2, .inr (1, [v14, v15, v16, .ref h3, v17, v18, v19, v20, v21, v22, v23, v24, v25])), (h3, .inl (a0, 48, .inl f0)), (h5, .inr (6, [.int 0, .ref h6, v27, v28, v29, v30, v31, .int 2, v32, v33, v34, v35, v36, v37, v38, v39, v40, v41, v42, v43, v44, v45, v46, v47, v48, v49, v50])), (h6, .inl (a2, 609, .inr (.inl f2)))]) (tr := [(a1, .long), (a0, .int), (a2, .long)]) hx hb hml hown hg okN (cX6_thrown_1 l D h5 (.ref h6) v27 v28 v29 v30 v31 (.int 2) v32 v33 v34 v35 v36 v37 v38 v39 v40 v41 v42 v43 v44 v45 v46 v47 v48 v49 v50) (mwV k1301 k1302 k1303 k92 k1304) ⟨rfl, by decide, by decide, by decide +kernel⟩ ⟨rfl, rfl, (Nat.le_of_ble_eq_true rfl), (Nat.le_of_ble_eq_true rfl)⟩ hP hD hK hS xn [5] [] [0, 1, 2, 3, 4, 5, 6] [] [0, 1, 2] rfl (by decide) rfl rfl (by decide) (by decide) rfl rfl (aNil hA hS) (aNil hA hS) 5 rfl rfl rfl hl.1 rfl (Nat.le_of_ble_eq_true rfl) dL_law_513 ⟨(Nat.le_of_ble_eq_true rfl), (Nat.le_of_ble_eq_true rfl)⟩ (fun u H locs hφ hP hD hK hS hk => ?_)
  have hP : va_P D vwCl [(h0, .inr (5, [v0, .ref h1, v1, .ref h2, v2, v3, v4, v5, v6, v7])), (h4, .inl (a1, 1, .inr (.inl (vp_updL f1 0 (-1))))), (h1, .inr (0, [v8, v9, .int 2, v10, v11, v12, v13])), (h2, .inr (1, [v14, v15, v16, .ref h3, v17, v18, v19, v20, v21, v22, v23, v24, v25])), (h3, .inl (a0, 48, .inl f0)), (h5, .inr (6, [.int 0, .ref h6, v27, v28, v29, v30, v31, .int 2, v32, v33, v34, v35, v36, v37, v38, v39, v40, v41, v42, v43, v44, v45, v46, v47, v48, v49, v50])), (h6, .inl (a2, 609, .inr (.inl f2)))] H := hP
  have hD : va_D A [(h0, .inr (5, [v0, .ref h1, v1, .ref h2, v2, v3, v4, v5, v6, v7])), (h4, .inl (a1, 1, .inr (.inl (vp_updL f1 0 (-1))))), (h1, .inr (0, [v8, v9, .int 2, v10, v11, v12, v13])), (h2, .inr (1, [v14, v15, v16, .ref h3, v17, v18, v19, v20, v21, v22, v23, v24, v25])), (h3, .inl (a0, 48, .inl f0)), (h5, .inr (6, [.int 0, .ref h6, v27, v28, v29, v30, v31, .int 2, v32, v33, v34, v35, v36, v37, v38, v39, v40, v41, v42, v43, v44, v45, v46, v47, v48, v49, v50])), (h6, .inl (a2, 609, .inr (.inl f2)))] := hD
  have hK : va_K D vwCl [(a1, .long), (a0, .int), (a2, .long)] s := hK
  refine W.widen (k := 1010) (n := 8898) (Nat.le_of_ble_eq_true rfl) (Nat.le_of_ble_eq_true rfl) ?_
  refine lv_iload hx hb dL_law_516 (lv_at hl 1 rfl) ?_
  refine lv_icmp_eq (tgt := 523) hx hb dL_law_518 (by decide) (fun _ => ?_) (fun c9 => absurd (by decide) c9)
  refine lv_iload hx hb dL_law_523 (lv_at hl 1 rfl) ?_
  refine lv_if_ne (tgt := 539) hx hb dL_law_525 (by decide) (fun c9 => absurd (by decide) c9) (fun _ => ?_)
  refine lv_aload_n hx hb dL_law_528 rfl (lv_at hl 3 rfl) ?_
  refine lv_iconst (v := 0) hx hb dL_law_529 (by decide) ?_
  refine aldL hx hb hK hP 1 0 rfl rfl 0 (by decide) (vin (by decide)) (v := (-1)) rfl dL_law_530 ?_
  refine lv_lload hx hb dL_law_531 (lv_at hl 0 rfl) ?_
  refine W.lcmp hx hb dL_law_533 ?_
  refine ti (0) (by decide) ?_
  refine lv_if_eq (tgt := 539) hx hb dL_law_534 (by decide) (fun _ => ?_) (fun c9 => absurd (by decide) c9)
  refine lv_goto (tgt := 2199) hx hb dL_law_539 (by decide) ?_
  refine W.widen (k := 3000) (n := 30000) (Nat.le_of_ble_eq_true rfl) (Nat.le_of_ble_eq_true rfl) ?_
  exact kk _ _ _ hS (lv_sub hl [2, 6] rfl)
set_option maxHeartbeats 4000000 in
set_option maxRecDepth 100000 in
theorem law_6_17 {p : Program} {e : Env} {s : State} {m : MethodId} {below : List Frame} {meth : Method} {c : Code} (l : Launch) (hlt : l.stackTraces = false) {b : Nat} {xs : Nat → Int32} (hx : p.tables.exec = Jvm.exec) (hb : c.code = cL_law) (hml : c.maxLocals = 9) (hown : s.vm.findClass RL = some m.cls) (hg : ∀ w ∈ GW, w.before #[Value.ref b] s = true) (hXs : va_X b 6 xs s s.heap) (hbl : b < s.heap.size) (D : va_G) {A : Nat → Prop} (hA : ∀ q, s.heap.size ≤ q → A q) (hbA : ¬ A b) (hX : XX A s s.heap) (Q : State → Prop) (h0 : Nat) (h1 : Nat) (h2 : Nat) (h3 : Nat) (v0 : Value) (v1 : Value) (v2 : Value) (v3 : Value) (v4 : Value) (v5 : Value) (v6 : Value) (v7 : Value) (v8 : Value) (v9 : Value) (v10 : Value) (v11 : Value) (v12 : Value) (v13 : Value) (v14 : Value) (v15 : Value) (v16 : Value) (v17 : Value) (v18 : Value) (v19 : Value) (v20 : Value) (v21 : Value) (v22 : Value) (v23 : Value) (v24 : Value) (v25 : Value) (v26 : Value) (v27 : Value) (v28 : Value) (v29 : Value) (v30 : Value) (v31 : Value) (v32 : Value) (v33 : Value) (v34 : Value) (v35 : Value) (v36 : Value) (v37 : Value) (v38 : Value) (v39 : Value) (v40 : Value)  (e1 : xs 1 = 1) (p2 : Int32) (e2 : xs 2 = p2) (bl2 : 6 ≤ p2.toInt) (bh2 : p2.toInt ≤ 2147483647) {H : Heap} {locs : List Loc} {ls : Array Slot} (hP : va_P D vwCl [(h0, .inr (5, [v0, .ref h1, v1, v2, v3, v4, v5, v6, v7, v8])), (h1, .inr (0, [v9, v10, .int 2, v11, v12, v13, v14])), (h2, .inr (6, [v15, v16, v17, v18, v19, v20, v21, .int 2, v22, v23, v24, v25, v26, v27, v28, v29, v30, v31, v32, v33, v34, v35, v36, v37, v38, v39, v40]))] H) (hD : va_D A [(h0, .inr (5, [v0, .ref h1, v1, v2, v3, v4, v5, v6, v7, v8])), (h1, .inr (0, [v9, v10, .int 2, v11, v12, v13, v14])), (h2, .inr (6, [v15, v16, v17, v18, v19, v20, v21, .int 2, v22, v23, v24, v25, v26, v27, v28, v29, v30, v31, v32, v33, v34, v35, v36, v37, v38, v39, v40]))]) (hK : va_K D vwCl [] s) (hS : va_S A s.heap H locs) (hl : lv_has ls 9 [(4, .int 0), (3, .ref h3), (2, .ref h2), (1, .ref h0), (0, .ref b)]) (kk : ∀ (H : Heap) (locs : List Loc) (ls : Array Slot), va_S A s.heap H locs → lv_has ls 9 [(4, .int 0), (0, .ref b)] → W p l e room_1 s m #[Value.ref b] below meth c H locs 3000 30000 Q (F0 m 2199 ls [])) : W p l e room_1 s m #[Value.ref b] below meth c H locs 1010 8898 Q (F0 m 475 ls []) := by
  have d0 : p2.toInt < 0 ∨ 5 < p2.toInt := (by omega)
  have d1 : ¬ ((lg_cmp p2.toInt64 0) < 0) := lgq3 (by have h0 : (0 : Int64).toInt = 0 := (by decide); have hp2 := i2lI p2; omega)
  have d2 : 0 < (lg_cmp p2.toInt64 5) := lgq5 (by have h5 : (5 : Int64).toInt = 5 := (by decide); have hp2 := i2lI p2; omega)
  refine lv_aload_n hx hb dL_law_475 rfl (lv_at hl 3 rfl) ?_
  refine lv_aload_n hx hb dL_law_476 rfl (lv_at hl 4 rfl) ?_
  refine lv_iload hx hb dL_law_477 (lv_at hl 0 rfl) ?_
  refine lv_iconst (v := 1) hx hb dL_law_479 (by decide) ?_
  refine lv_iadd hx hb dL_law_480 ?_
  refine ti (1) (by decide) ?_
  refine va_sld hx hb hXs hbl hbA hS (vin (by decide)) dL_law_481 ?_
  refine ti 1 e1 ?_
  refine lv_aload_n hx hb dL_law_482 rfl (lv_at hl 4 rfl) ?_
  refine lv_iload hx hb dL_law_483 (lv_at hl 0 rfl) ?_
  refine lv_iconst (v := 2) hx hb dL_law_485 (by decide) ?_
  refine lv_iadd hx hb dL_law_486 ?_
  refine ti (2) (by decide) ?_
  refine va_sld hx hb hXs hbl hbA hS (vin (by decide)) dL_law_487 ?_
  refine ti p2 e2 ?_
  refine lv_aload_n hx hb dL_law_488 rfl (lv_at hl 1 rfl) ?_
  refine cHi (n := 4) (As := [.ref h0, .int 1, .int p2, .ref h3]) (rest := []) (wr := [(h0, .inr (5, [v0, .ref h1, v1, v2, v3, v4, v5, v6, v7, v8])), (h1, .inr (0, [v9, v10, .int 2, v11, v12, v13, v14])), (h2, .inr (6, [v15, v16, v17, v18, v19, v20, v21, .int 2, v22, v23, v24, v25, v26, v27, v28, v29, v30, v31, v32, v33, v34, v35, v36, v37, v38, v39, v40]))]) (tr := []) hx hb hml hown hg okXX (cL_sample_625 l D hlt h0 p2 h3 h1 v0 v1 v2 v3 v4 v5 v6 v7 v8 v9 v10 v11 v12 v13 v14 d0) (mwHS k854 k855 k83 k856) ⟨by decide, by decide, by decide +kernel⟩ ⟨rfl, rfl, (Nat.le_of_ble_eq_true rfl), (Nat.le_of_ble_eq_true rfl)⟩ hP hD hK hS (okXX.2.2 _ _ _ _ hS.2.1 hX) [0, 1] [] [0, 1, 2] [] [] rfl (by decide) rfl rfl (by decide) (by decide) rfl rfl (aNil hA hS) (aNil hA hS) rfl hl.1 rfl (Nat.le_of_ble_eq_true rfl) dL_law_489 ⟨(Nat.le_of_ble_eq_true rfl), (Nat.le_of_ble_eq_true rfl)⟩ (fun u H locs hφ hP hD hK hS hk => ?_)
  have hP : va_P D vwCl [(h0, .inr (5, [v0, .ref h1, v1, v2, v3, v4, v5, v6, v7, v8])), (h1, .inr (0, [v9, v10, .int 2, v11, v12, v13, v14])), (h2, .inr (6, [v15, v16, v17, v18, v19, v20, v21, .int 2, v22, v23, v24, v25, v26, v27, v28, v29, v30, v31, v32, v33, v34, v35, v36, v37, v38, v39, v40]))] H := hP
  have hD : va_D A [(h0, .inr (5, [v0, .ref h1, v1, v2, v3, v4, v5, v6, v7, v8])), (h1, .inr (0, [v9, v10, .int 2, v11, v12, v13, v14])), (h2, .inr (6, [v15, v16, v17, v18, v19, v20, v21, .int 2, v22, v23, v24, v25, v26, v27, v28, v29, v30, v31, v32, v33, v34, v35, v36, v37, v38, v39, v40]))] := hD
  have hK : va_K D vwCl [] s := hK
  refine W.widen (k := 1011) (n := 8904) (Nat.le_of_ble_eq_true rfl) (Nat.le_of_ble_eq_true rfl) ?_
  refine lv_istore (lv' := [(5, .int 2), (4, .int 0), (3, .ref h3), (2, .ref h2), (1, .ref h0), (0, .ref b)]) hx hb dL_law_492 hl (by decide) rfl (fun ls hl => ?_)
  refine lv_aload_n hx hb dL_law_494 rfl (lv_at hl 3 rfl) ?_
  refine lv_aload_n hx hb dL_law_495 rfl (lv_at hl 5 rfl) ?_
  refine lv_iload hx hb dL_law_496 (lv_at hl 1 rfl) ?_
  refine lv_iconst (v := 1) hx hb dL_law_498 (by decide) ?_
  refine lv_iadd hx hb dL_law_499 ?_
  refine ti (1) (by decide) ?_
  refine va_sld hx hb hXs hbl hbA hS (vin (by decide)) dL_law_500 ?_
  refine ti 1 e1 ?_
  refine lv_aload_n hx hb dL_law_501 rfl (lv_at hl 5 rfl) ?_
  refine lv_iload hx hb dL_law_502 (lv_at hl 1 rfl) ?_
  refine lv_iconst (v := 2) hx hb dL_law_504 (by decide) ?_
  refine lv_iadd hx hb dL_law_505 ?_
  refine ti (2) (by decide) ?_
  refine va_sld hx hb hXs hbl hbA hS (vin (by decide)) dL_law_506 ?_
  refine ti p2 e2 ?_
  refine cVl (n := 2) (As := [.int 1, .int p2]) (rest := []) (wr := [(h0, .inr (5, [v0, .ref h1, v1, v2, v3, v4, v5, v6, v7, v8])), (h1, .inr (0, [v9, v10, .int 2, v11, v12, v13, v14]))]) (tr := []) hx hb hml hown hg okN (cX6_sample_89 l D h2 p2 v15 v16 v17 v18 v19 v20 v21 v22 v23 v24 v25 v26 v27 v28 v29 v30 v31 v32 v33 v34 v35 v36 v37 v38 v39 v40 d1 d2) (mwV k1436 k1437 k1438 k92 k1439) ⟨rfl, by decide, by decide, by decide +kernel⟩ ⟨rfl, rfl, (Nat.le_of_ble_eq_true rfl), (Nat.le_of_ble_eq_true rfl)⟩ hP hD hK hS xn [2] [2] [0, 1] [] [] rfl (by decide) rfl rfl (by decide) (by decide) rfl rfl (va_free hD hS hA [2] rfl) (va_free hD hS hA [2] rfl) 2 rfl rfl rfl hl.1 rfl (Nat.le_of_ble_eq_true rfl) dL_law_507 ⟨(Nat.le_of_ble_eq_true rfl), (Nat.le_of_ble_eq_true rfl)⟩ (fun u H locs hφ hP hD hK hS hk => ?_)
  have hP : va_P D vwCl [(h0, .inr (5, [v0, .ref h1, v1, v2, v3, v4, v5, v6, v7, v8])), (h1, .inr (0, [v9, v10, .int 2, v11, v12, v13, v14])), (h2, .inr (6, [.int 2, v16, v17, v18, v19, v20, v21, .int 2, v22, v23, v24, v25, v26, v27, v28, v29, v30, v31, v32, v33, v34, v35, v36, v37, v38, v39, v40]))] H := hP
  have hD : va_D A [(h0, .inr (5, [v0, .ref h1, v1, v2, v3, v4, v5, v6, v7, v8])), (h1, .inr (0, [v9, v10, .int 2, v11, v12, v13, v14])), (h2, .inr (6, [.int 2, v16, v17, v18, v19, v20, v21, .int 2, v22, v23, v24, v25, v26, v27, v28, v29, v30, v31, v32, v33, v34, v35, v36, v37, v38, v39, v40]))] := hD
  have hK : va_K D vwCl [] s := hK
  refine W.widen (k := 1011) (n := 8904) (Nat.le_of_ble_eq_true rfl) (Nat.le_of_ble_eq_true rfl) ?_
  refine lv_lstore (lv' := [(6, .long 0), (5, .int 2), (4, .int 0), (3, .ref h3), (2, .ref h2), (1, .ref h0), (0, .ref b)]) hx hb dL_law_510 hl (by decide) rfl (fun ls hl => ?_)
  refine lv_aload_n hx hb dL_law_512 rfl (lv_at hl 4 rfl) ?_
  refine cVi (n := 0) (As := []) (rest := []) (wr := [(h0, .inr (5, [v0, .ref h1, v1, v2, v3, v4, v5, v6, v7, v8])), (h1, .inr (0, [v9, v10, .int 2, v11, v12, v13, v14])), (h2, .inr (6, [.int 2, v16, v17, v18, v19, v20, v21, .int 2, v22, v23, v24, v25, v26, v27, v28, v29, v30, v31, v32, v33, v34, v35, v36, v37, v38, v39, v40]))]) (tr := []) hx hb hml hown hg okN (cX6_thrown_618 l D h2 v16 v17 v18 v19 v20 v21 (.int 2) v22 v23 v24 v25 v26 v27 v28 v29 v30 v31 v32 v33 v34 v35 v36 v37 v38 v39 v40) (mwV k1301 k1302 k1303 k92 k1304) ⟨rfl, by decide, by decide, by decide +kernel⟩ ⟨rfl, rfl, (Nat.le_of_ble_eq_true rfl), (Nat.le_of_ble_eq_true rfl)⟩ hP hD hK hS xn [2] [] [0, 1, 2] [] [] rfl (by decide) rfl rfl (by decide) (by decide) rfl rfl (aNil hA hS) (aNil hA hS) 2 rfl rfl rfl hl.1 rfl (Nat.le_of_ble_eq_true rfl) dL_law_513 ⟨(Nat.le_of_ble_eq_true rfl), (Nat.le_of_ble_eq_true rfl)⟩ (fun u H locs hφ hP hD hK hS hk => ?_)
  have hP : va_P D vwCl [(h0, .inr (5, [v0, .ref h1, v1, v2, v3, v4, v5, v6, v7, v8])), (h1, .inr (0, [v9, v10, .int 2, v11, v12, v13, v14])), (h2, .inr (6, [.int 2, v16, v17, v18, v19, v20, v21, .int 2, v22, v23, v24, v25, v26, v27, v28, v29, v30, v31, v32, v33, v34, v35, v36, v37, v38, v39, v40]))] H := hP
  have hD : va_D A [(h0, .inr (5, [v0, .ref h1, v1, v2, v3, v4, v5, v6, v7, v8])), (h1, .inr (0, [v9, v10, .int 2, v11, v12, v13, v14])), (h2, .inr (6, [.int 2, v16, v17, v18, v19, v20, v21, .int 2, v22, v23, v24, v25, v26, v27, v28, v29, v30, v31, v32, v33, v34, v35, v36, v37, v38, v39, v40]))] := hD
  have hK : va_K D vwCl [] s := hK
  refine W.widen (k := 1011) (n := 8904) (Nat.le_of_ble_eq_true rfl) (Nat.le_of_ble_eq_true rfl) ?_
  refine lv_iload hx hb dL_law_516 (lv_at hl 1 rfl) ?_
  refine lv_icmp_eq (tgt := 523) hx hb dL_law_518 (by decide) (fun _ => ?_) (fun c9 => absurd (by decide) c9)
  refine lv_iload hx hb dL_law_523 (lv_at hl 1 rfl) ?_
  refine lv_if_ne (tgt := 539) hx hb dL_law_525 (by decide) (fun _ => ?_) (fun c9 => absurd c9 (by decide))
  refine lv_goto (tgt := 2199) hx hb dL_law_539 (by decide) ?_
  refine W.widen (k := 3000) (n := 30000) (Nat.le_of_ble_eq_true rfl) (Nat.le_of_ble_eq_true rfl) ?_
  exact kk _ _ _ hS (lv_sub hl [2, 6] rfl)
set_option maxHeartbeats 4000000 in
set_option maxRecDepth 100000 in
theorem law_7_0 {p : Program} {e : Env} {s : State} {m : MethodId} {below : List Frame} {meth : Method} {c : Code} (l : Launch) (hlt : l.stackTraces = false) {b : Nat} {xs : Nat → Int32} (hx : p.tables.exec = Jvm.exec) (hb : c.code = cL_law) (hml : c.maxLocals = 9) (hown : s.vm.findClass RL = some m.cls) (hg : ∀ w ∈ GW, w.before #[Value.ref b] s = true) (hXs : va_X b 6 xs s s.heap) (hbl : b < s.heap.size) (D : va_G) {A : Nat → Prop} (hA : ∀ q, s.heap.size ≤ q → A q) (hbA : ¬ A b) (hX : XX A s s.heap) (Q : State → Prop) (h0 : Nat) (h1 : Nat) (h2 : Nat) (h3 : Nat) (h4 : Nat) (h5 : Nat) (v0 : Value) (v1 : Value) (v2 : Value) (v3 : Value) (v4 : Value) (v5 : Value) (v6 : Value) (v7 : Value) (v8 : Value) (v9 : Value) (v10 : Value) (v11 : Value) (v12 : Value) (v13 : Value) (v14 : Value) (v15 : Value) (v16 : Value) (v17 : Value) (v18 : Value) (v19 : Value) (v20 : Value) (v21 : Value) (v22 : Value) (v23 : Value) (v24 : Value) (v25 : Value) (v26 : Value) (v27 : Value) (v28 : Value) (v29 : Value) (v30 : Value) (v31 : Value) (v32 : Value) (v33 : Value) (v34 : Value) (v35 : Value) (v36 : Value) (v37 : Value) (v38 : Value) (v39 : Value) (v40 : Value) (v41 : Value) (v42 : Value) (v43 : Value) (v44 : Value) (v45 : Value) (v46 : Value) (v47 : Value) (v48 : Value) (v49 : Value) (v50 : Value) (f0 : Nat → Int64) (a0 : ClassId) (ef0_4 : f0 4 = 0) (p1 : Int32) (e1 : xs 1 = p1) (bl1 : (-2147483648) ≤ p1.toInt) (bh1 : p1.toInt ≤ (-1)) {H : Heap} {locs : List Loc} {ls : Array Slot} (hP : va_P D vwCl [(h0, .inr (5, [v0, v1, v2, .ref h1, v3, v4, v5, v6, v7, v8])), (h1, .inr (1, [.ref h2, v9, v10, v11, v12, .int 0, v13, v14, v15, v16, v17, v18, v19])), (h2, .inr (0, [v20, v21, .int 2, v22, v23, v24, v25])), (h3, .inr (6, [v26, .ref h4, v27, v28, v29, v30, v31, .int 2, v32, v33, v34, v35, v36, v37, v38, v39, v40, v41, v42, v43, v44, v45, v46, v47, v48, v49, v50])), (h4, .inl (a0, 609, .inr (.inl f0)))] H) (hD : va_D A [(h0, .inr (5, [v0, v1, v2, .ref h1, v3, v4, v5, v6, v7, v8])), (h1, .inr (1, [.ref h2, v9, v10, v11, v12, .int 0, v13, v14, v15, v16, v17, v18, v19])), (h2, .inr (0, [v20, v21, .int 2, v22, v23, v24, v25])), (h3, .inr (6, [v26, .ref h4, v27, v28, v29, v30, v31, .int 2, v32, v33, v34, v35, v36, v37, v38, v39, v40, v41, v42, v43, v44, v45, v46, v47, v48, v49, v50])), (h4, .inl (a0, 609, .inr (.inl f0)))]) (hK : va_K D vwCl [(a0, .long)] s) (hS : va_S A s.heap H locs) (hl : lv_has ls 9 [(4, .int 0), (3, .ref h5), (2, .ref h3), (1, .ref h0), (0, .ref b)]) (kk : ∀ (H : Heap) (locs : List Loc) (ls : Array Slot), va_S A s.heap H locs → lv_has ls 9 [(4, .int 0), (0, .ref b)] → W p l e room_1 s m #[Value.ref b] below meth c H locs 3000 30000 Q (F0 m 2199 ls [])) : W p l e room_1 s m #[Value.ref b] below meth c H locs 1010 8898 Q (F0 m 542 ls []) := by
  have d0 : p1 < 0 := i_lt (by have h0 : (0 : Int32).toInt = 0 := (by decide); omega)
  have d1 : (lg_cmp p1.toInt64 0) < 0 := lgq1 (by have h0 : (0 : Int64).toInt = 0 := (by decide); have hp1 := i2lI p1; omega)
  refine lv_aload_n hx hb dL_law_542 rfl (lv_at hl 3 rfl) ?_
  refine lv_aload_n hx hb dL_law_543 rfl (lv_at hl 4 rfl) ?_
  refine lv_iload hx hb dL_law_544 (lv_at hl 0 rfl) ?_
  refine lv_iconst (v := 1) hx hb dL_law_546 (by decide) ?_
  refine lv_iadd hx hb dL_law_547 ?_
  refine ti (1) (by decide) ?_
  refine va_sld hx hb hXs hbl hbA hS (vin (by decide)) dL_law_548 ?_
  refine ti p1 e1 ?_
  refine lv_aload_n hx hb dL_law_549 rfl (lv_at hl 1 rfl) ?_
  refine cHi (n := 3) (As := [.ref h0, .int p1, .ref h5]) (rest := []) (wr := [(h0, .inr (5, [v0, v1, v2, .ref h1, v3, v4, v5, v6, v7, v8])), (h1, .inr (1, [.ref h2, v9, v10, v11, v12, .int 0, v13, v14, v15, v16, v17, v18, v19])), (h2, .inr (0, [v20, v21, .int 2, v22, v23, v24, v25])), (h3, .inr (6, [v26, .ref h4, v27, v28, v29, v30, v31, .int 2, v32, v33, v34, v35, v36, v37, v38, v39, v40, v41, v42, v43, v44, v45, v46, v47, v48, v49, v50])), (h4, .inl (a0, 609, .inr (.inl f0)))]) (tr := [(a0, .long)]) hx hb hml hown hg okXX (cL_present_632 l D hlt h0 p1 h5 h1 h2 v0 v1 v2 v3 v4 v5 v6 v7 v8 v9 v10 v11 v12 v13 v14 v15 v16 v17 v18 v19 v20 v21 v22 v23 v24 v25 d0) (mwHS k863 k864 k83 k865) ⟨by decide, by decide, by decide +kernel⟩ ⟨rfl, rfl, (Nat.le_of_ble_eq_true rfl), (Nat.le_of_ble_eq_true rfl)⟩ hP hD hK hS (okXX.2.2 _ _ _ _ hS.2.1 hX) [0, 1, 2] [] [0, 1, 2, 3, 4] [] [0] rfl (by decide) rfl rfl (by decide) (by decide) rfl rfl (aNil hA hS) (aNil hA hS) rfl hl.1 rfl (Nat.le_of_ble_eq_true rfl) dL_law_550 ⟨(Nat.le_of_ble_eq_true rfl), (Nat.le_of_ble_eq_true rfl)⟩ (fun u H locs hφ hP hD hK hS hk => ?_)
  have hP : va_P D vwCl [(h0, .inr (5, [v0, v1, v2, .ref h1, v3, v4, v5, v6, v7, v8])), (h1, .inr (1, [.ref h2, v9, v10, v11, v12, .int 0, v13, v14, v15, v16, v17, v18, v19])), (h2, .inr (0, [v20, v21, .int 2, v22, v23, v24, v25])), (h3, .inr (6, [v26, .ref h4, v27, v28, v29, v30, v31, .int 2, v32, v33, v34, v35, v36, v37, v38, v39, v40, v41, v42, v43, v44, v45, v46, v47, v48, v49, v50])), (h4, .inl (a0, 609, .inr (.inl f0)))] H := hP
  have hD : va_D A [(h0, .inr (5, [v0, v1, v2, .ref h1, v3, v4, v5, v6, v7, v8])), (h1, .inr (1, [.ref h2, v9, v10, v11, v12, .int 0, v13, v14, v15, v16, v17, v18, v19])), (h2, .inr (0, [v20, v21, .int 2, v22, v23, v24, v25])), (h3, .inr (6, [v26, .ref h4, v27, v28, v29, v30, v31, .int 2, v32, v33, v34, v35, v36, v37, v38, v39, v40, v41, v42, v43, v44, v45, v46, v47, v48, v49, v50])), (h4, .inl (a0, 609, .inr (.inl f0)))] := hD
  have hK : va_K D vwCl [(a0, .long)] s := hK
  refine W.widen (k := 1011) (n := 8904) (Nat.le_of_ble_eq_true rfl) (Nat.le_of_ble_eq_true rfl) ?_
  refine lv_istore (lv' := [(5, .int 1), (4, .int 0), (3, .ref h5), (2, .ref h3), (1, .ref h0), (0, .ref b)]) hx hb dL_law_553 hl (by decide) rfl (fun ls hl => ?_)
  refine lv_aload_n hx hb dL_law_555 rfl (lv_at hl 3 rfl) ?_
  refine lv_aload_n hx hb dL_law_556 rfl (lv_at hl 5 rfl) ?_
  refine lv_iload hx hb dL_law_557 (lv_at hl 1 rfl) ?_
  refine lv_iconst (v := 1) hx hb dL_law_559 (by decide) ?_
  refine lv_iadd hx hb dL_law_560 ?_
  refine ti (1) (by decide) ?_
  refine va_sld hx hb hXs hbl hbA hS (vin (by decide)) dL_law_561 ?_
  refine ti p1 e1 ?_
  refine cVi (n := 1) (As := [.int p1]) (rest := []) (wr := [(h0, .inr (5, [v0, v1, v2, .ref h1, v3, v4, v5, v6, v7, v8])), (h1, .inr (1, [.ref h2, v9, v10, v11, v12, .int 0, v13, v14, v15, v16, v17, v18, v19])), (h2, .inr (0, [v20, v21, .int 2, v22, v23, v24, v25]))]) (tr := []) hx hb hml hown hg okN (cX6_present_90 l D h3 p1 h4 v26 v27 v28 v29 v30 v31 v32 v33 v34 v35 v36 v37 v38 v39 v40 v41 v42 v43 v44 v45 v46 v47 v48 v49 v50 f0 a0 ef0_4 d1) (mwV k1445 k1446 k1447 k92 k1448) ⟨rfl, by decide, by decide, by decide +kernel⟩ ⟨rfl, rfl, (Nat.le_of_ble_eq_true rfl), (Nat.le_of_ble_eq_true rfl)⟩ hP hD hK hS xn [3, 4] [3, 4] [0, 1, 2] [0] [] rfl (by decide) rfl rfl (by decide) (by decide) rfl rfl (va_free hD hS hA [3, 4] rfl) (va_free hD hS hA [3, 4] rfl) 3 rfl rfl rfl hl.1 rfl (Nat.le_of_ble_eq_true rfl) dL_law_562 ⟨(Nat.le_of_ble_eq_true rfl), (Nat.le_of_ble_eq_true rfl)⟩ (fun u H locs hφ hP hD hK hS hk => ?_)
  have hP : va_P D vwCl [(h0, .inr (5, [v0, v1, v2, .ref h1, v3, v4, v5, v6, v7, v8])), (h1, .inr (1, [.ref h2, v9, v10, v11, v12, .int 0, v13, v14, v15, v16, v17, v18, v19])), (h2, .inr (0, [v20, v21, .int 2, v22, v23, v24, v25])), (h3, .inr (6, [.int 1, .ref h4, v27, v28, v29, v30, v31, .int 2, v32, v33, v34, v35, v36, v37, v38, v39, v40, v41, v42, v43, v44, v45, v46, v47, v48, v49, v50])), (h4, .inl (a0, 609, .inr (.inl f0)))] H := hP
  have hD : va_D A [(h0, .inr (5, [v0, v1, v2, .ref h1, v3, v4, v5, v6, v7, v8])), (h1, .inr (1, [.ref h2, v9, v10, v11, v12, .int 0, v13, v14, v15, v16, v17, v18, v19])), (h2, .inr (0, [v20, v21, .int 2, v22, v23, v24, v25])), (h3, .inr (6, [.int 1, .ref h4, v27, v28, v29, v30, v31, .int 2, v32, v33, v34, v35, v36, v37, v38, v39, v40, v41, v42, v43, v44, v45, v46, v47, v48, v49, v50])), (h4, .inl (a0, 609, .inr (.inl f0)))] := hD
  have hK : va_K D vwCl [(a0, .long)] s := hK
  refine W.widen (k := 1011) (n := 8904) (Nat.le_of_ble_eq_true rfl) (Nat.le_of_ble_eq_true rfl) ?_
  refine lv_istore (lv' := [(6, .int 0), (5, .int 1), (4, .int 0), (3, .ref h5), (2, .ref h3), (1, .ref h0), (0, .ref b)]) hx hb dL_law_565 hl (by decide) rfl (fun ls hl => ?_)
  refine lv_aload_n hx hb dL_law_567 rfl (lv_at hl 4 rfl) ?_
  refine cVi (n := 0) (As := []) (rest := []) (wr := [(h0, .inr (5, [v0, v1, v2, .ref h1, v3, v4, v5, v6, v7, v8])), (h1, .inr (1, [.ref h2, v9, v10, v11, v12, .int 0, v13, v14, v15, v16, v17, v18, v19])), (h2, .inr (0, [v20, v21, .int 2, v22, v23, v24, v25])), (h3, .inr (6, [.int 1, .ref h4, v27, v28, v29, v30, v31, .int 2, v32, v33, v34, v35, v36, v37, v38, v39, v40, v41, v42, v43, v44, v45, v46, v47, v48, v49, v50])), (h4, .inl (a0, 609, .inr (.inl f0)))]) (tr := [(a0, .long)]) hx hb hml hown hg okN (cX6_thrown_601 l D h3 (.ref h4) v27 v28 v29 v30 v31 (.int 2) v32 v33 v34 v35 v36 v37 v38 v39 v40 v41 v42 v43 v44 v45 v46 v47 v48 v49 v50) (mwV k1301 k1302 k1303 k92 k1304) ⟨rfl, by decide, by decide, by decide +kernel⟩ ⟨rfl, rfl, (Nat.le_of_ble_eq_true rfl), (Nat.le_of_ble_eq_true rfl)⟩ hP hD hK hS xn [3] [] [0, 1, 2, 3, 4] [] [0] rfl (by decide) rfl rfl (by decide) (by decide) rfl rfl (aNil hA hS) (aNil hA hS) 3 rfl rfl rfl hl.1 rfl (Nat.le_of_ble_eq_true rfl) dL_law_568 ⟨(Nat.le_of_ble_eq_true rfl), (Nat.le_of_ble_eq_true rfl)⟩ (fun u H locs hφ hP hD hK hS hk => ?_)
  have hP : va_P D vwCl [(h0, .inr (5, [v0, v1, v2, .ref h1, v3, v4, v5, v6, v7, v8])), (h1, .inr (1, [.ref h2, v9, v10, v11, v12, .int 0, v13, v14, v15, v16, v17, v18, v19])), (h2, .inr (0, [v20, v21, .int 2, v22, v23, v24, v25])), (h3, .inr (6, [.int 1, .ref h4, v27, v28, v29, v30, v31, .int 2, v32, v33, v34, v35, v36, v37, v38, v39, v40, v41, v42, v43, v44, v45, v46, v47, v48, v49, v50])), (h4, .inl (a0, 609, .inr (.inl f0)))] H := hP
  have hD : va_D A [(h0, .inr (5, [v0, v1, v2, .ref h1, v3, v4, v5, v6, v7, v8])), (h1, .inr (1, [.ref h2, v9, v10, v11, v12, .int 0, v13, v14, v15, v16, v17, v18, v19])), (h2, .inr (0, [v20, v21, .int 2, v22, v23, v24, v25])), (h3, .inr (6, [.int 1, .ref h4, v27, v28, v29, v30, v31, .int 2, v32, v33, v34, v35, v36, v37, v38, v39, v40, v41, v42, v43, v44, v45, v46, v47, v48, v49, v50])), (h4, .inl (a0, 609, .inr (.inl f0)))] := hD
  have hK : va_K D vwCl [(a0, .long)] s := hK
  refine W.widen (k := 1011) (n := 8904) (Nat.le_of_ble_eq_true rfl) (Nat.le_of_ble_eq_true rfl) ?_
  refine lv_iload hx hb dL_law_571 (lv_at hl 1 rfl) ?_
  refine lv_icmp_eq (tgt := 578) hx hb dL_law_573 (by decide) (fun _ => ?_) (fun c9 => absurd (by decide) c9)
  refine lv_iload hx hb dL_law_578 (lv_at hl 1 rfl) ?_
  refine lv_if_ne (tgt := 595) hx hb dL_law_580 (by decide) (fun _ => ?_) (fun c9 => absurd c9 (by decide))
  refine lv_goto (tgt := 2199) hx hb dL_law_595 (by decide) ?_
  refine W.widen (k := 3000) (n := 30000) (Nat.le_of_ble_eq_true rfl) (Nat.le_of_ble_eq_true rfl) ?_
  exact kk _ _ _ hS (lv_sub hl [2, 6] rfl)
set_option maxHeartbeats 4000000 in
set_option maxRecDepth 100000 in
theorem law_7_1 {p : Program} {e : Env} {s : State} {m : MethodId} {below : List Frame} {meth : Method} {c : Code} (l : Launch) (hlt : l.stackTraces = false) {b : Nat} {xs : Nat → Int32} (hx : p.tables.exec = Jvm.exec) (hb : c.code = cL_law) (hml : c.maxLocals = 9) (hown : s.vm.findClass RL = some m.cls) (hg : ∀ w ∈ GW, w.before #[Value.ref b] s = true) (hXs : va_X b 6 xs s s.heap) (hbl : b < s.heap.size) (D : va_G) {A : Nat → Prop} (hA : ∀ q, s.heap.size ≤ q → A q) (hbA : ¬ A b) (hX : XX A s s.heap) (Q : State → Prop) (h0 : Nat) (h1 : Nat) (h2 : Nat) (h3 : Nat) (h4 : Nat) (h5 : Nat) (h6 : Nat) (v0 : Value) (v1 : Value) (v2 : Value) (v3 : Value) (v4 : Value) (v5 : Value) (v6 : Value) (v7 : Value) (v8 : Value) (v9 : Value) (v10 : Value) (v11 : Value) (v12 : Value) (v13 : Value) (v14 : Value) (v15 : Value) (v16 : Value) (v17 : Value) (v18 : Value) (v19 : Value) (v20 : Value) (v21 : Value) (v22 : Value) (v23 : Value) (v24 : Value) (f0 : Nat → Int32) (f1 : Nat → Int64) (v25 : Value) (v26 : Value) (v27 : Value) (v28 : Value) (v29 : Value) (v30 : Value) (v31 : Value) (v32 : Value) (v33 : Value) (v34 : Value) (v35 : Value) (v36 : Value) (v37 : Value) (v38 : Value) (v39 : Value) (v40 : Value) (v41 : Value) (v42 : Value) (v43 : Value) (v44 : Value) (v45 : Value) (v46 : Value) (v47 : Value) (v48 : Value) (v49 : Value) (f2 : Nat → Int64) (a0 : ClassId) (a1 : ClassId) (a2 : ClassId) (ef0_0 : f0 0 = (-1)) (ef2_4 : f2 4 = 0) (e1 : xs 1 = 0) {H : Heap} {locs : List Loc} {ls : Array Slot} (hP : va_P D vwCl [(h0, .inr (5, [v0, v1, v2, .ref h1, v3, v4, v5, v6, v7, v8])), (h1, .inr (1, [.ref h2, v9, v10, .ref h3, v11, .int 0, v12, v13, v14, v15, v16, v17, v18])), (h2, .inr (0, [v19, v20, .int 2, v21, v22, v23, v24])), (h3, .inl (a0, 48, .inl f0)), (h4, .inl (a1, 1, .inr (.inl f1))), (h5, .inr (6, [v25, .ref h6, v26, v27, v28, v29, v30, .int 2, v31, v32, v33, v34, v35, v36, v37, v38, v39, v40, v41, v42, v43, v44, v45, v46, v47, v48, v49])), (h6, .inl (a2, 609, .inr (.inl f2)))] H) (hD : va_D A [(h0, .inr (5, [v0, v1, v2, .ref h1, v3, v4, v5, v6, v7, v8])), (h1, .inr (1, [.ref h2, v9, v10, .ref h3, v11, .int 0, v12, v13, v14, v15, v16, v17, v18])), (h2, .inr (0, [v19, v20, .int 2, v21, v22, v23, v24])), (h3, .inl (a0, 48, .inl f0)), (h4, .inl (a1, 1, .inr (.inl f1))), (h5, .inr (6, [v25, .ref h6, v26, v27, v28, v29, v30, .int 2, v31, v32, v33, v34, v35, v36, v37, v38, v39, v40, v41, v42, v43, v44, v45, v46, v47, v48, v49])), (h6, .inl (a2, 609, .inr (.inl f2)))]) (hK : va_K D vwCl [(a0, .int), (a1, .long), (a2, .long)] s) (hS : va_S A s.heap H locs) (hl : lv_has ls 9 [(4, .int 0), (3, .ref h4), (2, .ref h5), (1, .ref h0), (0, .ref b)]) (kk : ∀ (H : Heap) (locs : List Loc) (ls : Array Slot), va_S A s.heap H locs → lv_has ls 9 [(4, .int 0), (0, .ref b)] → W p l e room_1 s m #[Value.ref b] below meth c H locs 3000 30000 Q (F0 m 2199 ls [])) : W p l e room_1 s m #[Value.ref b] below meth c H locs 1010 8898 Q (F0 m 542 ls []) := by
  refine lv_aload_n hx hb dL_law_542 rfl (lv_at hl 3 rfl) ?_
  refine lv_aload_n hx hb dL_law_543 rfl (lv_at hl 4 rfl) ?_
  refine lv_iload hx hb dL_law_544 (lv_at hl 0 rfl) ?_
  refine lv_iconst (v := 1) hx hb dL_law_546 (by decide) ?_
  refine lv_iadd hx hb dL_law_547 ?_
  refine ti (1) (by decide) ?_
  refine va_sld hx hb hXs hbl hbA hS (vin (by decide)) dL_law_548 ?_
  refine ti 0 e1 ?_
  refine lv_aload_n hx hb dL_law_549 rfl (lv_at hl 1 rfl) ?_
  refine cHi (n := 3) (As := [.ref h0, .int 0, .ref h4]) (rest := []) (wr := [(h5, .inr (6, [v25, .ref h6, v26, v27, v28, v29, v30, .int 2, v31, v32, v33, v34, v35, v36, v37, v38, v39, v40, v41, v42, v43, v44, v45, v46, v47, v48, v49])), (h6, .inl (a2, 609, .inr (.inl f2)))]) (tr := [(a2, .long)]) hx hb hml hown hg okN (cL_present_633 l D h0 h4 h1 h2 h3 v0 v1 v2 v3 v4 v5 v6 v7 v8 f1 v9 v10 v11 v12 v13 v14 v15 v16 v17 v18 v19 v20 v21 v22 v23 v24 f0 a1 a0 ef0_0) (mwHS k863 k864 k83 k865) ⟨by decide, by decide, by decide +kernel⟩ ⟨rfl, rfl, (Nat.le_of_ble_eq_true rfl), (Nat.le_of_ble_eq_true rfl)⟩ hP hD hK hS xn [0, 4, 1, 2, 3] [0, 4, 1, 2, 3] [5, 6] [1, 0] [2] rfl (by decide) rfl rfl (by decide) (by decide) rfl rfl (va_free hD hS hA [0, 4, 1, 2, 3] rfl) (va_free hD hS hA [0, 4, 1, 2, 3] rfl) rfl hl.1 rfl (Nat.le_of_ble_eq_true rfl) dL_law_550 ⟨(Nat.le_of_ble_eq_true rfl), (Nat.le_of_ble_eq_true rfl)⟩ (fun u H locs hφ hP hD hK hS hk => ?_)
  have hP : va_P D vwCl [(h5, .inr (6, [v25, .ref h6, v26, v27, v28, v29, v30, .int 2, v31, v32, v33, v34, v35, v36, v37, v38, v39, v40, v41, v42, v43, v44, v45, v46, v47, v48, v49])), (h6, .inl (a2, 609, .inr (.inl f2))), (h0, .inr (5, [v0, v1, v2, .ref h1, v3, v4, v5, v6, v7, v8])), (h4, .inl (a1, 1, .inr (.inl (vp_updL f1 0 0)))), (h1, .inr (1, [.ref h2, v9, v10, .ref h3, v11, .int 0, v12, v13, v14, v15, v16, v17, v18])), (h2, .inr (0, [v19, v20, .int 2, v21, v22, v23, v24])), (h3, .inl (a0, 48, .inl f0))] H := hP
  have hD : va_D A [(h5, .inr (6, [v25, .ref h6, v26, v27, v28, v29, v30, .int 2, v31, v32, v33, v34, v35, v36, v37, v38, v39, v40, v41, v42, v43, v44, v45, v46, v47, v48, v49])), (h6, .inl (a2, 609, .inr (.inl f2))), (h0, .inr (5, [v0, v1, v2, .ref h1, v3, v4, v5, v6, v7, v8])), (h4, .inl (a1, 1, .inr (.inl (vp_updL f1 0 0)))), (h1, .inr (1, [.ref h2, v9, v10, .ref h3, v11, .int 0, v12, v13, v14, v15, v16, v17, v18])), (h2, .inr (0, [v19, v20, .int 2, v21, v22, v23, v24])), (h3, .inl (a0, 48, .inl f0))] := hD
  have hK : va_K D vwCl [(a2, .long), (a1, .long), (a0, .int)] s := hK
  refine W.widen (k := 1010) (n := 8898) (Nat.le_of_ble_eq_true rfl) (Nat.le_of_ble_eq_true rfl) ?_
  refine lv_istore (lv' := [(5, .int 0), (4, .int 0), (3, .ref h4), (2, .ref h5), (1, .ref h0), (0, .ref b)]) hx hb dL_law_553 hl (by decide) rfl (fun ls hl => ?_)
  refine lv_aload_n hx hb dL_law_555 rfl (lv_at hl 3 rfl) ?_
  refine lv_aload_n hx hb dL_law_556 rfl (lv_at hl 5 rfl) ?_
  refine lv_iload hx hb dL_law_557 (lv_at hl 1 rfl) ?_
  refine lv_iconst (v := 1) hx hb dL_law_559 (by decide) ?_
  refine lv_iadd hx hb dL_law_560 ?_
  refine ti (1) (by decide) ?_
  refine va_sld hx hb hXs hbl hbA hS (vin (by decide)) dL_law_561 ?_
  refine ti 0 e1 ?_
  refine cVi (n := 1) (As := [.int 0]) (rest := []) (wr := [(h0, .inr (5, [v0, v1, v2, .ref h1, v3, v4, v5, v6, v7, v8])), (h4, .inl (a1, 1, .inr (.inl (vp_updL f1 0 0)))), (h1, .inr (1, [.ref h2, v9, v10, .ref h3, v11, .int 0, v12, v13, v14, v15, v16, v17, v18])), (h2, .inr (0, [v19, v20, .int 2, v21, v22, v23, v24])), (h3, .inl (a0, 48, .inl f0))]) (tr := [(a1, .long), (a0, .int)]) hx hb hml hown hg okN (cX6_present_91 l D h5 h6 v25 v26 v27 v28 v29 v30 v31 v32 v33 v34 v35 v36 v37 v38 v39 v40 v41 v42 v43 v44 v45 v46 v47 v48 v49 f2 a2 ef2_4) (mwV k1445 k1446 k1447 k92 k1448) ⟨rfl, by decide, by decide, by decide +kernel⟩ ⟨rfl, rfl, (Nat.le_of_ble_eq_true rfl), (Nat.le_of_ble_eq_true rfl)⟩ hP hD hK hS xn [0, 1] [0, 1] [2, 3, 4, 5, 6] [0] [1, 2] rfl (by decide) rfl rfl (by decide) (by decide) rfl rfl (va_free hD hS hA [0, 1] rfl) (va_free hD hS hA [0, 1] rfl) 0 rfl rfl rfl hl.1 rfl (Nat.le_of_ble_eq_true rfl) dL_law_562 ⟨(Nat.le_of_ble_eq_true rfl), (Nat.le_of_ble_eq_true rfl)⟩ (fun u H locs hφ hP hD hK hS hk => ?_)
  have hP : va_P D vwCl [(h0, .inr (5, [v0, v1, v2, .ref h1, v3, v4, v5, v6, v7, v8])), (h4, .inl (a1, 1, .inr (.inl (vp_updL f1 0 0)))), (h1, .inr (1, [.ref h2, v9, v10, .ref h3, v11, .int 0, v12, v13, v14, v15, v16, v17, v18])), (h2, .inr (0, [v19, v20, .int 2, v21, v22, v23, v24])), (h3, .inl (a0, 48, .inl f0)), (h5, .inr (6, [.int 0, .ref h6, v26, v27, v28, v29, v30, .int 2, v31, v32, v33, v34, v35, v36, v37, v38, v39, v40, v41, v42, v43, v44, v45, v46, v47, v48, v49])), (h6, .inl (a2, 609, .inr (.inl f2)))] H := hP
  have hD : va_D A [(h0, .inr (5, [v0, v1, v2, .ref h1, v3, v4, v5, v6, v7, v8])), (h4, .inl (a1, 1, .inr (.inl (vp_updL f1 0 0)))), (h1, .inr (1, [.ref h2, v9, v10, .ref h3, v11, .int 0, v12, v13, v14, v15, v16, v17, v18])), (h2, .inr (0, [v19, v20, .int 2, v21, v22, v23, v24])), (h3, .inl (a0, 48, .inl f0)), (h5, .inr (6, [.int 0, .ref h6, v26, v27, v28, v29, v30, .int 2, v31, v32, v33, v34, v35, v36, v37, v38, v39, v40, v41, v42, v43, v44, v45, v46, v47, v48, v49])), (h6, .inl (a2, 609, .inr (.inl f2)))] := hD
  have hK : va_K D vwCl [(a1, .long), (a0, .int), (a2, .long)] s := hK
  refine W.widen (k := 1010) (n := 8898) (Nat.le_of_ble_eq_true rfl) (Nat.le_of_ble_eq_true rfl) ?_
  refine lv_istore (lv' := [(6, .int 0), (5, .int 0), (4, .int 0), (3, .ref h4), (2, .ref h5), (1, .ref h0), (0, .ref b)]) hx hb dL_law_565 hl (by decide) rfl (fun ls hl => ?_)
  refine lv_aload_n hx hb dL_law_567 rfl (lv_at hl 4 rfl) ?_
  refine cVi (n := 0) (As := []) (rest := []) (wr := [(h0, .inr (5, [v0, v1, v2, .ref h1, v3, v4, v5, v6, v7, v8])), (h4, .inl (a1, 1, .inr (.inl (vp_updL f1 0 0)))), (h1, .inr (1, [.ref h2, v9, v10, .ref h3, v11, .int 0, v12, v13, v14, v15, v16, v17, v18])), (h2, .inr (0, [v19, v20, .int 2, v21, v22, v23, v24])), (h3, .inl (a0, 48, .inl f0)), (h5, .inr (6, [.int 0, .ref h6, v26, v27, v28, v29, v30, .int 2, v31, v32, v33, v34, v35, v36, v37, v38, v39, v40, v41, v42, v43, v44, v45, v46, v47, v48, v49])), (h6, .inl (a2, 609, .inr (.inl f2)))]) (tr := [(a1, .long), (a0, .int), (a2, .long)]) hx hb hml hown hg okN (cX6_thrown_1 l D h5 (.ref h6) v26 v27 v28 v29 v30 (.int 2) v31 v32 v33 v34 v35 v36 v37 v38 v39 v40 v41 v42 v43 v44 v45 v46 v47 v48 v49) (mwV k1301 k1302 k1303 k92 k1304) ⟨rfl, by decide, by decide, by decide +kernel⟩ ⟨rfl, rfl, (Nat.le_of_ble_eq_true rfl), (Nat.le_of_ble_eq_true rfl)⟩ hP hD hK hS xn [5] [] [0, 1, 2, 3, 4, 5, 6] [] [0, 1, 2] rfl (by decide) rfl rfl (by decide) (by decide) rfl rfl (aNil hA hS) (aNil hA hS) 5 rfl rfl rfl hl.1 rfl (Nat.le_of_ble_eq_true rfl) dL_law_568 ⟨(Nat.le_of_ble_eq_true rfl), (Nat.le_of_ble_eq_true rfl)⟩ (fun u H locs hφ hP hD hK hS hk => ?_)
  have hP : va_P D vwCl [(h0, .inr (5, [v0, v1, v2, .ref h1, v3, v4, v5, v6, v7, v8])), (h4, .inl (a1, 1, .inr (.inl (vp_updL f1 0 0)))), (h1, .inr (1, [.ref h2, v9, v10, .ref h3, v11, .int 0, v12, v13, v14, v15, v16, v17, v18])), (h2, .inr (0, [v19, v20, .int 2, v21, v22, v23, v24])), (h3, .inl (a0, 48, .inl f0)), (h5, .inr (6, [.int 0, .ref h6, v26, v27, v28, v29, v30, .int 2, v31, v32, v33, v34, v35, v36, v37, v38, v39, v40, v41, v42, v43, v44, v45, v46, v47, v48, v49])), (h6, .inl (a2, 609, .inr (.inl f2)))] H := hP
  have hD : va_D A [(h0, .inr (5, [v0, v1, v2, .ref h1, v3, v4, v5, v6, v7, v8])), (h4, .inl (a1, 1, .inr (.inl (vp_updL f1 0 0)))), (h1, .inr (1, [.ref h2, v9, v10, .ref h3, v11, .int 0, v12, v13, v14, v15, v16, v17, v18])), (h2, .inr (0, [v19, v20, .int 2, v21, v22, v23, v24])), (h3, .inl (a0, 48, .inl f0)), (h5, .inr (6, [.int 0, .ref h6, v26, v27, v28, v29, v30, .int 2, v31, v32, v33, v34, v35, v36, v37, v38, v39, v40, v41, v42, v43, v44, v45, v46, v47, v48, v49])), (h6, .inl (a2, 609, .inr (.inl f2)))] := hD
  have hK : va_K D vwCl [(a1, .long), (a0, .int), (a2, .long)] s := hK
  refine W.widen (k := 1010) (n := 8898) (Nat.le_of_ble_eq_true rfl) (Nat.le_of_ble_eq_true rfl) ?_
  refine lv_iload hx hb dL_law_571 (lv_at hl 1 rfl) ?_
  refine lv_icmp_eq (tgt := 578) hx hb dL_law_573 (by decide) (fun _ => ?_) (fun c9 => absurd (by decide) c9)
  refine lv_iload hx hb dL_law_578 (lv_at hl 1 rfl) ?_
  refine lv_if_ne (tgt := 595) hx hb dL_law_580 (by decide) (fun c9 => absurd (by decide) c9) (fun _ => ?_)
  refine lv_aload_n hx hb dL_law_583 rfl (lv_at hl 3 rfl) ?_
  refine lv_iconst (v := 0) hx hb dL_law_584 (by decide) ?_
  refine aldL hx hb hK hP 1 0 rfl rfl 0 (by decide) (vin (by decide)) (v := 0) rfl dL_law_585 ?_
  refine lv_iload hx hb dL_law_586 (lv_at hl 0 rfl) ?_
  refine lv_i2l (v := 0) hx hb dL_law_588 (by decide) ?_
  refine W.lcmp hx hb dL_law_589 ?_
  refine ti (0) (by decide) ?_
  refine lv_if_eq (tgt := 595) hx hb dL_law_590 (by decide) (fun _ => ?_) (fun c9 => absurd (by decide) c9)
  refine lv_goto (tgt := 2199) hx hb dL_law_595 (by decide) ?_
  refine W.widen (k := 3000) (n := 30000) (Nat.le_of_ble_eq_true rfl) (Nat.le_of_ble_eq_true rfl) ?_
  exact kk _ _ _ hS (lv_sub hl [2, 6] rfl)
set_option maxHeartbeats 4000000 in
set_option maxRecDepth 100000 in
theorem law_7_2 {p : Program} {e : Env} {s : State} {m : MethodId} {below : List Frame} {meth : Method} {c : Code} (l : Launch) (hlt : l.stackTraces = false) {b : Nat} {xs : Nat → Int32} (hx : p.tables.exec = Jvm.exec) (hb : c.code = cL_law) (hml : c.maxLocals = 9) (hown : s.vm.findClass RL = some m.cls) (hg : ∀ w ∈ GW, w.before #[Value.ref b] s = true) (hXs : va_X b 6 xs s s.heap) (hbl : b < s.heap.size) (D : va_G) {A : Nat → Prop} (hA : ∀ q, s.heap.size ≤ q → A q) (hbA : ¬ A b) (hX : XX A s s.heap) (Q : State → Prop) (h0 : Nat) (h1 : Nat) (h2 : Nat) (h3 : Nat) (h4 : Nat) (h5 : Nat) (h6 : Nat) (v0 : Value) (v1 : Value) (v2 : Value) (v3 : Value) (v4 : Value) (v5 : Value) (v6 : Value) (v7 : Value) (v8 : Value) (v9 : Value) (v10 : Value) (v11 : Value) (v12 : Value) (v13 : Value) (v14 : Value) (v15 : Value) (v16 : Value) (v17 : Value) (v18 : Value) (v19 : Value) (v20 : Value) (v21 : Value) (v22 : Value) (v23 : Value) (v24 : Value) (f0 : Nat → Int32) (f1 : Nat → Int64) (v25 : Value) (v26 : Value) (v27 : Value) (v28 : Value) (v29 : Value) (v30 : Value) (v31 : Value) (v32 : Value) (v33 : Value) (v34 : Value) (v35 : Value) (v36 : Value) (v37 : Value) (v38 : Value) (v39 : Value) (v40 : Value) (v41 : Value) (v42 : Value) (v43 : Value) (v44 : Value) (v45 : Value) (v46 : Value) (v47 : Value) (v48 : Value) (v49 : Value) (f2 : Nat → Int64) (a0 : ClassId) (a1 : ClassId) (a2 : ClassId) (ef0_0 : f0 0 = (-1)) (ef0_1 : f0 1 = (-1)) (ef2_4 : f2 4 = 0) (ef2_102 : f2 102 = (-1)) (e1 : xs 1 = 1) {H : Heap} {locs : List Loc} {ls : Array Slot} (hP : va_P D vwCl [(h0, .inr (5, [v0, v1, v2, .ref h1, v3, v4, v5, v6, v7, v8])), (h1, .inr (1, [.ref h2, v9, v10, .ref h3, v11, .int 0, v12, v13, v14, v15, v16, v17, v18])), (h2, .inr (0, [v19, v20, .int 2, v21, v22, v23, v24])), (h3, .inl (a0, 48, .inl f0)), (h4, .inl (a1, 1, .inr (.inl f1))), (h5, .inr (6, [v25, .ref h6, v26, v27, v28, v29, v30, .int 2, v31, v32, v33, v34, v35, v36, v37, v38, v39, v40, v41, v42, v43, v44, v45, v46, v47, v48, v49])), (h6, .inl (a2, 609, .inr (.inl f2)))] H) (hD : va_D A [(h0, .inr (5, [v0, v1, v2, .ref h1, v3, v4, v5, v6, v7, v8])), (h1, .inr (1, [.ref h2, v9, v10, .ref h3, v11, .int 0, v12, v13, v14, v15, v16, v17, v18])), (h2, .inr (0, [v19, v20, .int 2, v21, v22, v23, v24])), (h3, .inl (a0, 48, .inl f0)), (h4, .inl (a1, 1, .inr (.inl f1))), (h5, .inr (6, [v25, .ref h6, v26, v27, v28, v29, v30, .int 2, v31, v32, v33, v34, v35, v36, v37, v38, v39, v40, v41, v42, v43, v44, v45, v46, v47, v48, v49])), (h6, .inl (a2, 609, .inr (.inl f2)))]) (hK : va_K D vwCl [(a0, .int), (a1, .long), (a2, .long)] s) (hS : va_S A s.heap H locs) (hl : lv_has ls 9 [(4, .int 0), (3, .ref h4), (2, .ref h5), (1, .ref h0), (0, .ref b)]) (kk : ∀ (H : Heap) (locs : List Loc) (ls : Array Slot), va_S A s.heap H locs → lv_has ls 9 [(4, .int 0), (0, .ref b)] → W p l e room_1 s m #[Value.ref b] below meth c H locs 3000 30000 Q (F0 m 2199 ls [])) : W p l e room_1 s m #[Value.ref b] below meth c H locs 1010 8898 Q (F0 m 542 ls []) := by
  refine lv_aload_n hx hb dL_law_542 rfl (lv_at hl 3 rfl) ?_
  refine lv_aload_n hx hb dL_law_543 rfl (lv_at hl 4 rfl) ?_
  refine lv_iload hx hb dL_law_544 (lv_at hl 0 rfl) ?_
  refine lv_iconst (v := 1) hx hb dL_law_546 (by decide) ?_
  refine lv_iadd hx hb dL_law_547 ?_
  refine ti (1) (by decide) ?_
  refine va_sld hx hb hXs hbl hbA hS (vin (by decide)) dL_law_548 ?_
  refine ti 1 e1 ?_
  refine lv_aload_n hx hb dL_law_549 rfl (lv_at hl 1 rfl) ?_
  refine cHi (n := 3) (As := [.ref h0, .int 1, .ref h4]) (rest := []) (wr := [(h5, .inr (6, [v25, .ref h6, v26, v27, v28, v29, v30, .int 2, v31, v32, v33, v34, v35, v36, v37, v38, v39, v40, v41, v42, v43, v44, v45, v46, v47, v48, v49])), (h6, .inl (a2, 609, .inr (.inl f2)))]) (tr := [(a2, .long)]) hx hb hml hown hg okN (cL_present_634 l D h0 h4 h1 h2 h3 v0 v1 v2 v3 v4 v5 v6 v7 v8 f1 v9 v10 v11 v12 v13 v14 v15 v16 v17 v18 v19 v20 v21 v22 v23 v24 f0 a1 a0 ef0_0 ef0_1) (mwHS k863 k864 k83 k865) ⟨by decide, by decide, by decide +kernel⟩ ⟨rfl, rfl, (Nat.le_of_ble_eq_true rfl), (Nat.le_of_ble_eq_true rfl)⟩ hP hD hK hS xn [0, 4, 1, 2, 3] [0, 4, 1, 2, 3] [5, 6] [1, 0] [2] rfl (by decide) rfl rfl (by decide) (by decide) rfl rfl (va_free hD hS hA [0, 4, 1, 2, 3] rfl) (va_free hD hS hA [0, 4, 1, 2, 3] rfl) rfl hl.1 rfl (Nat.le_of_ble_eq_true rfl) dL_law_550 ⟨(Nat.le_of_ble_eq_true rfl), (Nat.le_of_ble_eq_true rfl)⟩ (fun u H locs hφ hP hD hK hS hk => ?_)
  have hP : va_P D vwCl [(h5, .inr (6, [v25, .ref h6, v26, v27, v28, v29, v30, .int 2, v31, v32, v33, v34, v35, v36, v37, v38, v39, v40, v41, v42, v43, v44, v45, v46, v47, v48, v49])), (h6, .inl (a2, 609, .inr (.inl f2))), (h0, .inr (5, [v0, v1, v2, .ref h1, v3, v4, v5, v6, v7, v8])), (h4, .inl (a1, 1, .inr (.inl (vp_updL f1 0 1)))), (h1, .inr (1, [.ref h2, v9, v10, .ref h3, v11, .int 0, v12, v13, v14, v15, v16, v17, v18])), (h2, .inr (0, [v19, v20, .int 2, v21, v22, v23, v24])), (h3, .inl (a0, 48, .inl f0))] H := hP
  have hD : va_D A [(h5, .inr (6, [v25, .ref h6, v26, v27, v28, v29, v30, .int 2, v31, v32, v33, v34, v35, v36, v37, v38, v39, v40, v41, v42, v43, v44, v45, v46, v47, v48, v49])), (h6, .inl (a2, 609, .inr (.inl f2))), (h0, .inr (5, [v0, v1, v2, .ref h1, v3, v4, v5, v6, v7, v8])), (h4, .inl (a1, 1, .inr (.inl (vp_updL f1 0 1)))), (h1, .inr (1, [.ref h2, v9, v10, .ref h3, v11, .int 0, v12, v13, v14, v15, v16, v17, v18])), (h2, .inr (0, [v19, v20, .int 2, v21, v22, v23, v24])), (h3, .inl (a0, 48, .inl f0))] := hD
  have hK : va_K D vwCl [(a2, .long), (a1, .long), (a0, .int)] s := hK
  refine W.widen (k := 1010) (n := 8898) (Nat.le_of_ble_eq_true rfl) (Nat.le_of_ble_eq_true rfl) ?_
  refine lv_istore (lv' := [(5, .int 0), (4, .int 0), (3, .ref h4), (2, .ref h5), (1, .ref h0), (0, .ref b)]) hx hb dL_law_553 hl (by decide) rfl (fun ls hl => ?_)
  refine lv_aload_n hx hb dL_law_555 rfl (lv_at hl 3 rfl) ?_
  refine lv_aload_n hx hb dL_law_556 rfl (lv_at hl 5 rfl) ?_
  refine lv_iload hx hb dL_law_557 (lv_at hl 1 rfl) ?_
  refine lv_iconst (v := 1) hx hb dL_law_559 (by decide) ?_
  refine lv_iadd hx hb dL_law_560 ?_
  refine ti (1) (by decide) ?_
  refine va_sld hx hb hXs hbl hbA hS (vin (by decide)) dL_law_561 ?_
  refine ti 1 e1 ?_
  refine cVi (n := 1) (As := [.int 1]) (rest := []) (wr := [(h0, .inr (5, [v0, v1, v2, .ref h1, v3, v4, v5, v6, v7, v8])), (h4, .inl (a1, 1, .inr (.inl (vp_updL f1 0 1)))), (h1, .inr (1, [.ref h2, v9, v10, .ref h3, v11, .int 0, v12, v13, v14, v15, v16, v17, v18])), (h2, .inr (0, [v19, v20, .int 2, v21, v22, v23, v24])), (h3, .inl (a0, 48, .inl f0))]) (tr := [(a1, .long), (a0, .int)]) hx hb hml hown hg okN (cX6_present_92 l D h5 h6 v25 v26 v27 v28 v29 v30 v31 v32 v33 v34 v35 v36 v37 v38 v39 v40 v41 v42 v43 v44 v45 v46 v47 v48 v49 f2 a2 ef2_4 ef2_102) (mwV k1445 k1446 k1447 k92 k1448) ⟨rfl, by decide, by decide, by decide +kernel⟩ ⟨rfl, rfl, (Nat.le_of_ble_eq_true rfl), (Nat.le_of_ble_eq_true rfl)⟩ hP hD hK hS xn [0, 1] [0, 1] [2, 3, 4, 5, 6] [0] [1, 2] rfl (by decide) rfl rfl (by decide) (by decide) rfl rfl (va_free hD hS hA [0, 1] rfl) (va_free hD hS hA [0, 1] rfl) 0 rfl rfl rfl hl.1 rfl (Nat.le_of_ble_eq_true rfl) dL_law_562 ⟨(Nat.le_of_ble_eq_true rfl), (Nat.le_of_ble_eq_true rfl)⟩ (fun u H locs hφ hP hD hK hS hk => ?_)
  have hP : va_P D vwCl [(h0, .inr (5, [v0, v1, v2, .ref h1, v3, v4, v5, v6, v7, v8])), (h4, .inl (a1, 1, .inr (.inl (vp_updL f1 0 1)))), (h1, .inr (1, [.ref h2, v9, v10, .ref h3, v11, .int 0, v12, v13, v14, v15, v16, v17, v18])), (h2, .inr (0, [v19, v20, .int 2, v21, v22, v23, v24])), (h3, .inl (a0, 48, .inl f0)), (h5, .inr (6, [.int 0, .ref h6, v26, v27, v28, v29, v30, .int 2, v31, v32, v33, v34, v35, v36, v37, v38, v39, v40, v41, v42, v43, v44, v45, v46, v47, v48, v49])), (h6, .inl (a2, 609, .inr (.inl f2)))] H := hP
  have hD : va_D A [(h0, .inr (5, [v0, v1, v2, .ref h1, v3, v4, v5, v6, v7, v8])), (h4, .inl (a1, 1, .inr (.inl (vp_updL f1 0 1)))), (h1, .inr (1, [.ref h2, v9, v10, .ref h3, v11, .int 0, v12, v13, v14, v15, v16, v17, v18])), (h2, .inr (0, [v19, v20, .int 2, v21, v22, v23, v24])), (h3, .inl (a0, 48, .inl f0)), (h5, .inr (6, [.int 0, .ref h6, v26, v27, v28, v29, v30, .int 2, v31, v32, v33, v34, v35, v36, v37, v38, v39, v40, v41, v42, v43, v44, v45, v46, v47, v48, v49])), (h6, .inl (a2, 609, .inr (.inl f2)))] := hD
  have hK : va_K D vwCl [(a1, .long), (a0, .int), (a2, .long)] s := hK
  refine W.widen (k := 1010) (n := 8898) (Nat.le_of_ble_eq_true rfl) (Nat.le_of_ble_eq_true rfl) ?_
  refine lv_istore (lv' := [(6, .int 1), (5, .int 0), (4, .int 0), (3, .ref h4), (2, .ref h5), (1, .ref h0), (0, .ref b)]) hx hb dL_law_565 hl (by decide) rfl (fun ls hl => ?_)
  refine lv_aload_n hx hb dL_law_567 rfl (lv_at hl 4 rfl) ?_
  refine cVi (n := 0) (As := []) (rest := []) (wr := [(h0, .inr (5, [v0, v1, v2, .ref h1, v3, v4, v5, v6, v7, v8])), (h4, .inl (a1, 1, .inr (.inl (vp_updL f1 0 1)))), (h1, .inr (1, [.ref h2, v9, v10, .ref h3, v11, .int 0, v12, v13, v14, v15, v16, v17, v18])), (h2, .inr (0, [v19, v20, .int 2, v21, v22, v23, v24])), (h3, .inl (a0, 48, .inl f0)), (h5, .inr (6, [.int 0, .ref h6, v26, v27, v28, v29, v30, .int 2, v31, v32, v33, v34, v35, v36, v37, v38, v39, v40, v41, v42, v43, v44, v45, v46, v47, v48, v49])), (h6, .inl (a2, 609, .inr (.inl f2)))]) (tr := [(a1, .long), (a0, .int), (a2, .long)]) hx hb hml hown hg okN (cX6_thrown_1 l D h5 (.ref h6) v26 v27 v28 v29 v30 (.int 2) v31 v32 v33 v34 v35 v36 v37 v38 v39 v40 v41 v42 v43 v44 v45 v46 v47 v48 v49) (mwV k1301 k1302 k1303 k92 k1304) ⟨rfl, by decide, by decide, by decide +kernel⟩ ⟨rfl, rfl, (Nat.le_of_ble_eq_true rfl), (Nat.le_of_ble_eq_true rfl)⟩ hP hD hK hS xn [5] [] [0, 1, 2, 3, 4, 5, 6] [] [0, 1, 2] rfl (by decide) rfl rfl (by decide) (by decide) rfl rfl (aNil hA hS) (aNil hA hS) 5 rfl rfl rfl hl.1 rfl (Nat.le_of_ble_eq_true rfl) dL_law_568 ⟨(Nat.le_of_ble_eq_true rfl), (Nat.le_of_ble_eq_true rfl)⟩ (fun u H locs hφ hP hD hK hS hk => ?_)
  have hP : va_P D vwCl [(h0, .inr (5, [v0, v1, v2, .ref h1, v3, v4, v5, v6, v7, v8])), (h4, .inl (a1, 1, .inr (.inl (vp_updL f1 0 1)))), (h1, .inr (1, [.ref h2, v9, v10, .ref h3, v11, .int 0, v12, v13, v14, v15, v16, v17, v18])), (h2, .inr (0, [v19, v20, .int 2, v21, v22, v23, v24])), (h3, .inl (a0, 48, .inl f0)), (h5, .inr (6, [.int 0, .ref h6, v26, v27, v28, v29, v30, .int 2, v31, v32, v33, v34, v35, v36, v37, v38, v39, v40, v41, v42, v43, v44, v45, v46, v47, v48, v49])), (h6, .inl (a2, 609, .inr (.inl f2)))] H := hP
  have hD : va_D A [(h0, .inr (5, [v0, v1, v2, .ref h1, v3, v4, v5, v6, v7, v8])), (h4, .inl (a1, 1, .inr (.inl (vp_updL f1 0 1)))), (h1, .inr (1, [.ref h2, v9, v10, .ref h3, v11, .int 0, v12, v13, v14, v15, v16, v17, v18])), (h2, .inr (0, [v19, v20, .int 2, v21, v22, v23, v24])), (h3, .inl (a0, 48, .inl f0)), (h5, .inr (6, [.int 0, .ref h6, v26, v27, v28, v29, v30, .int 2, v31, v32, v33, v34, v35, v36, v37, v38, v39, v40, v41, v42, v43, v44, v45, v46, v47, v48, v49])), (h6, .inl (a2, 609, .inr (.inl f2)))] := hD
  have hK : va_K D vwCl [(a1, .long), (a0, .int), (a2, .long)] s := hK
  refine W.widen (k := 1010) (n := 8898) (Nat.le_of_ble_eq_true rfl) (Nat.le_of_ble_eq_true rfl) ?_
  refine lv_iload hx hb dL_law_571 (lv_at hl 1 rfl) ?_
  refine lv_icmp_eq (tgt := 578) hx hb dL_law_573 (by decide) (fun _ => ?_) (fun c9 => absurd (by decide) c9)
  refine lv_iload hx hb dL_law_578 (lv_at hl 1 rfl) ?_
  refine lv_if_ne (tgt := 595) hx hb dL_law_580 (by decide) (fun c9 => absurd (by decide) c9) (fun _ => ?_)
  refine lv_aload_n hx hb dL_law_583 rfl (lv_at hl 3 rfl) ?_
  refine lv_iconst (v := 0) hx hb dL_law_584 (by decide) ?_
  refine aldL hx hb hK hP 1 0 rfl rfl 0 (by decide) (vin (by decide)) (v := 1) rfl dL_law_585 ?_
  refine lv_iload hx hb dL_law_586 (lv_at hl 0 rfl) ?_
  refine lv_i2l (v := 1) hx hb dL_law_588 (by decide) ?_
  refine W.lcmp hx hb dL_law_589 ?_
  refine ti (0) (by decide) ?_
  refine lv_if_eq (tgt := 595) hx hb dL_law_590 (by decide) (fun _ => ?_) (fun c9 => absurd (by decide) c9)
  refine lv_goto (tgt := 2199) hx hb dL_law_595 (by decide) ?_
  refine W.widen (k := 3000) (n := 30000) (Nat.le_of_ble_eq_true rfl) (Nat.le_of_ble_eq_true rfl) ?_
  exact kk _ _ _ hS (lv_sub hl [2, 6] rfl)
set_option maxHeartbeats 4000000 in
set_option maxRecDepth 100000 in
theorem law_7_3 {p : Program} {e : Env} {s : State} {m : MethodId} {below : List Frame} {meth : Method} {c : Code} (l : Launch) (hlt : l.stackTraces = false) {b : Nat} {xs : Nat → Int32} (hx : p.tables.exec = Jvm.exec) (hb : c.code = cL_law) (hml : c.maxLocals = 9) (hown : s.vm.findClass RL = some m.cls) (hg : ∀ w ∈ GW, w.before #[Value.ref b] s = true) (hXs : va_X b 6 xs s s.heap) (hbl : b < s.heap.size) (D : va_G) {A : Nat → Prop} (hA : ∀ q, s.heap.size ≤ q → A q) (hbA : ¬ A b) (hX : XX A s s.heap) (Q : State → Prop) (h0 : Nat) (h1 : Nat) (h2 : Nat) (h3 : Nat) (h4 : Nat) (h5 : Nat) (v0 : Value) (v1 : Value) (v2 : Value) (v3 : Value) (v4 : Value) (v5 : Value) (v6 : Value) (v7 : Value) (v8 : Value) (v9 : Value) (v10 : Value) (v11 : Value) (v12 : Value) (v13 : Value) (v14 : Value) (v15 : Value) (v16 : Value) (v17 : Value) (v18 : Value) (v19 : Value) (v20 : Value) (v21 : Value) (v22 : Value) (v23 : Value) (v24 : Value) (v25 : Value) (v26 : Value) (v27 : Value) (v28 : Value) (v29 : Value) (v30 : Value) (v31 : Value) (v32 : Value) (v33 : Value) (v34 : Value) (v35 : Value) (v36 : Value) (v37 : Value) (v38 : Value) (v39 : Value) (v40 : Value) (v41 : Value) (v42 : Value) (v43 : Value) (v44 : Value) (v45 : Value) (v46 : Value) (v47 : Value) (v48 : Value) (v49 : Value) (v50 : Value) (f0 : Nat → Int64) (a0 : ClassId) (ef0_4 : f0 4 = 0) (p1 : Int32) (e1 : xs 1 = p1) (bl1 : 2 ≤ p1.toInt) (bh1 : p1.toInt ≤ 2147483647) {H : Heap} {locs : List Loc} {ls : Array Slot} (hP : va_P D vwCl [(h0, .inr (5, [v0, v1, v2, .ref h1, v3, v4, v5, v6, v7, v8])), (h1, .inr (1, [.ref h2, v9, v10, v11, v12, .int 0, v13, v14, v15, v16, v17, v18, v19])), (h2, .inr (0, [v20, v21, .int 2, v22, v23, v24, v25])), (h3, .inr (6, [v26, .ref h4, v27, v28, v29, v30, v31, .int 2, v32, v33, v34, v35, v36, v37, v38, v39, v40, v41, v42, v43, v44, v45, v46, v47, v48, v49, v50])), (h4, .inl (a0, 609, .inr (.inl f0)))] H) (hD : va_D A [(h0, .inr (5, [v0, v1, v2, .ref h1, v3, v4, v5, v6, v7, v8])), (h1, .inr (1, [.ref h2, v9, v10, v11, v12, .int 0, v13, v14, v15, v16, v17, v18, v19])), (h2, .inr (0, [v20, v21, .int 2, v22, v23, v24, v25])), (h3, .inr (6, [v26, .ref h4, v27, v28, v29, v30, v31, .int 2, v32, v33, v34, v35, v36, v37, v38, v39, v40, v41, v42, v43, v44, v45, v46, v47, v48, v49, v50])), (h4, .inl (a0, 609, .inr (.inl f0)))]) (hK : va_K D vwCl [(a0, .long)] s) (hS : va_S A s.heap H locs) (hl : lv_has ls 9 [(4, .int 0), (3, .ref h5), (2, .ref h3), (1, .ref h0), (0, .ref b)]) (kk : ∀ (H : Heap) (locs : List Loc) (ls : Array Slot), va_S A s.heap H locs → lv_has ls 9 [(4, .int 0), (0, .ref b)] → W p l e room_1 s m #[Value.ref b] below meth c H locs 3000 30000 Q (F0 m 2199 ls [])) : W p l e room_1 s m #[Value.ref b] below meth c H locs 1010 8898 Q (F0 m 542 ls []) := by
  have d0 : ¬ (p1 < 0) := i_nlt (by have h0 : (0 : Int32).toInt = 0 := (by decide); omega)
  have d1 : ¬ (p1 < 2) := i_nlt (by have h2 : (2 : Int32).toInt = 2 := (by decide); omega)
  have d2 : ¬ ((lg_cmp p1.toInt64 0) < 0) := lgq3 (by have h0 : (0 : Int64).toInt = 0 := (by decide); have hp1 := i2lI p1; omega)
  have d3 : 0 < (lg_cmp p1.toInt64 1) := lgq5 (by have h1 : (1 : Int64).toInt = 1 := (by decide); have hp1 := i2lI p1; omega)
  refine lv_aload_n hx hb dL_law_542 rfl (lv_at hl 3 rfl) ?_
  refine lv_aload_n hx hb dL_law_543 rfl (lv_at hl 4 rfl) ?_
  refine lv_iload hx hb dL_law_544 (lv_at hl 0 rfl) ?_
  refine lv_iconst (v := 1) hx hb dL_law_546 (by decide) ?_
  refine lv_iadd hx hb dL_law_547 ?_
  refine ti (1) (by decide) ?_
  refine va_sld hx hb hXs hbl hbA hS (vin (by decide)) dL_law_548 ?_
  refine ti p1 e1 ?_
  refine lv_aload_n hx hb dL_law_549 rfl (lv_at hl 1 rfl) ?_
  refine cHi (n := 3) (As := [.ref h0, .int p1, .ref h5]) (rest := []) (wr := [(h0, .inr (5, [v0, v1, v2, .ref h1, v3, v4, v5, v6, v7, v8])), (h1, .inr (1, [.ref h2, v9, v10, v11, v12, .int 0, v13, v14, v15, v16, v17, v18, v19])), (h2, .inr (0, [v20, v21, .int 2, v22, v23, v24, v25])), (h3, .inr (6, [v26, .ref h4, v27, v28, v29, v30, v31, .int 2, v32, v33, v34, v35, v36, v37, v38, v39, v40, v41, v42, v43, v44, v45, v46, v47, v48, v49, v50])), (h4, .inl (a0, 609, .inr (.inl f0)))]) (tr := [(a0, .long)]) hx hb hml hown hg okXX (cL_present_635 l D hlt h0 p1 h5 h1 h2 v0 v1 v2 v3 v4 v5 v6 v7 v8 v9 v10 v11 v12 v13 v14 v15 v16 v17 v18 v19 v20 v21 v22 v23 v24 v25 d0 d1) (mwHS k863 k864 k83 k865) ⟨by decide, by decide, by decide +kernel⟩ ⟨rfl, rfl, (Nat.le_of_ble_eq_true rfl), (Nat.le_of_ble_eq_true rfl)⟩ hP hD hK hS (okXX.2.2 _ _ _ _ hS.2.1 hX) [0, 1, 2] [] [0, 1, 2, 3, 4] [] [0] rfl (by decide) rfl rfl (by decide) (by decide) rfl rfl (aNil hA hS) (aNil hA hS) rfl hl.1 rfl (Nat.le_of_ble_eq_true rfl) dL_law_550 ⟨(Nat.le_of_ble_eq_true rfl), (Nat.le_of_ble_eq_true rfl)⟩ (fun u H locs hφ hP hD hK hS hk => ?_)
  have hP : va_P D vwCl [(h0, .inr (5, [v0, v1, v2, .ref h1, v3, v4, v5, v6, v7, v8])), (h1, .inr (1, [.ref h2, v9, v10, v11, v12, .int 0, v13, v14, v15, v16, v17, v18, v19])), (h2, .inr (0, [v20, v21, .int 2, v22, v23, v24, v25])), (h3, .inr (6, [v26, .ref h4, v27, v28, v29, v30, v31, .int 2, v32, v33, v34, v35, v36, v37, v38, v39, v40, v41, v42, v43, v44, v45, v46, v47, v48, v49, v50])), (h4, .inl (a0, 609, .inr (.inl f0)))] H := hP
  have hD : va_D A [(h0, .inr (5, [v0, v1, v2, .ref h1, v3, v4, v5, v6, v7, v8])), (h1, .inr (1, [.ref h2, v9, v10, v11, v12, .int 0, v13, v14, v15, v16, v17, v18, v19])), (h2, .inr (0, [v20, v21, .int 2, v22, v23, v24, v25])), (h3, .inr (6, [v26, .ref h4, v27, v28, v29, v30, v31, .int 2, v32, v33, v34, v35, v36, v37, v38, v39, v40, v41, v42, v43, v44, v45, v46, v47, v48, v49, v50])), (h4, .inl (a0, 609, .inr (.inl f0)))] := hD
  have hK : va_K D vwCl [(a0, .long)] s := hK
  refine W.widen (k := 1011) (n := 8904) (Nat.le_of_ble_eq_true rfl) (Nat.le_of_ble_eq_true rfl) ?_
  refine lv_istore (lv' := [(5, .int 1), (4, .int 0), (3, .ref h5), (2, .ref h3), (1, .ref h0), (0, .ref b)]) hx hb dL_law_553 hl (by decide) rfl (fun ls hl => ?_)
  refine lv_aload_n hx hb dL_law_555 rfl (lv_at hl 3 rfl) ?_
  refine lv_aload_n hx hb dL_law_556 rfl (lv_at hl 5 rfl) ?_
  refine lv_iload hx hb dL_law_557 (lv_at hl 1 rfl) ?_
  refine lv_iconst (v := 1) hx hb dL_law_559 (by decide) ?_
  refine lv_iadd hx hb dL_law_560 ?_
  refine ti (1) (by decide) ?_
  refine va_sld hx hb hXs hbl hbA hS (vin (by decide)) dL_law_561 ?_
  refine ti p1 e1 ?_
  refine cVi (n := 1) (As := [.int p1]) (rest := []) (wr := [(h0, .inr (5, [v0, v1, v2, .ref h1, v3, v4, v5, v6, v7, v8])), (h1, .inr (1, [.ref h2, v9, v10, v11, v12, .int 0, v13, v14, v15, v16, v17, v18, v19])), (h2, .inr (0, [v20, v21, .int 2, v22, v23, v24, v25]))]) (tr := []) hx hb hml hown hg okN (cX6_present_94 l D h3 p1 h4 v26 v27 v28 v29 v30 v31 v32 v33 v34 v35 v36 v37 v38 v39 v40 v41 v42 v43 v44 v45 v46 v47 v48 v49 v50 f0 a0 ef0_4 d2 d3) (mwV k1445 k1446 k1447 k92 k1448) ⟨rfl, by decide, by decide, by decide +kernel⟩ ⟨rfl, rfl, (Nat.le_of_ble_eq_true rfl), (Nat.le_of_ble_eq_true rfl)⟩ hP hD hK hS xn [3, 4] [3, 4] [0, 1, 2] [0] [] rfl (by decide) rfl rfl (by decide) (by decide) rfl rfl (va_free hD hS hA [3, 4] rfl) (va_free hD hS hA [3, 4] rfl) 3 rfl rfl rfl hl.1 rfl (Nat.le_of_ble_eq_true rfl) dL_law_562 ⟨(Nat.le_of_ble_eq_true rfl), (Nat.le_of_ble_eq_true rfl)⟩ (fun u H locs hφ hP hD hK hS hk => ?_)
  have hP : va_P D vwCl [(h0, .inr (5, [v0, v1, v2, .ref h1, v3, v4, v5, v6, v7, v8])), (h1, .inr (1, [.ref h2, v9, v10, v11, v12, .int 0, v13, v14, v15, v16, v17, v18, v19])), (h2, .inr (0, [v20, v21, .int 2, v22, v23, v24, v25])), (h3, .inr (6, [.int 1, .ref h4, v27, v28, v29, v30, v31, .int 2, v32, v33, v34, v35, v36, v37, v38, v39, v40, v41, v42, v43, v44, v45, v46, v47, v48, v49, v50])), (h4, .inl (a0, 609, .inr (.inl f0)))] H := hP
  have hD : va_D A [(h0, .inr (5, [v0, v1, v2, .ref h1, v3, v4, v5, v6, v7, v8])), (h1, .inr (1, [.ref h2, v9, v10, v11, v12, .int 0, v13, v14, v15, v16, v17, v18, v19])), (h2, .inr (0, [v20, v21, .int 2, v22, v23, v24, v25])), (h3, .inr (6, [.int 1, .ref h4, v27, v28, v29, v30, v31, .int 2, v32, v33, v34, v35, v36, v37, v38, v39, v40, v41, v42, v43, v44, v45, v46, v47, v48, v49, v50])), (h4, .inl (a0, 609, .inr (.inl f0)))] := hD
  have hK : va_K D vwCl [(a0, .long)] s := hK
  refine W.widen (k := 1011) (n := 8904) (Nat.le_of_ble_eq_true rfl) (Nat.le_of_ble_eq_true rfl) ?_
  refine lv_istore (lv' := [(6, .int 0), (5, .int 1), (4, .int 0), (3, .ref h5), (2, .ref h3), (1, .ref h0), (0, .ref b)]) hx hb dL_law_565 hl (by decide) rfl (fun ls hl => ?_)
  refine lv_aload_n hx hb dL_law_567 rfl (lv_at hl 4 rfl) ?_
  refine cVi (n := 0) (As := []) (rest := []) (wr := [(h0, .inr (5, [v0, v1, v2, .ref h1, v3, v4, v5, v6, v7, v8])), (h1, .inr (1, [.ref h2, v9, v10, v11, v12, .int 0, v13, v14, v15, v16, v17, v18, v19])), (h2, .inr (0, [v20, v21, .int 2, v22, v23, v24, v25])), (h3, .inr (6, [.int 1, .ref h4, v27, v28, v29, v30, v31, .int 2, v32, v33, v34, v35, v36, v37, v38, v39, v40, v41, v42, v43, v44, v45, v46, v47, v48, v49, v50])), (h4, .inl (a0, 609, .inr (.inl f0)))]) (tr := [(a0, .long)]) hx hb hml hown hg okN (cX6_thrown_601 l D h3 (.ref h4) v27 v28 v29 v30 v31 (.int 2) v32 v33 v34 v35 v36 v37 v38 v39 v40 v41 v42 v43 v44 v45 v46 v47 v48 v49 v50) (mwV k1301 k1302 k1303 k92 k1304) ⟨rfl, by decide, by decide, by decide +kernel⟩ ⟨rfl, rfl, (Nat.le_of_ble_eq_true rfl), (Nat.le_of_ble_eq_true rfl)⟩ hP hD hK hS xn [3] [] [0, 1, 2, 3, 4] [] [0] rfl (by decide) rfl rfl (by decide) (by decide) rfl rfl (aNil hA hS) (aNil hA hS) 3 rfl rfl rfl hl.1 rfl (Nat.le_of_ble_eq_true rfl) dL_law_568 ⟨(Nat.le_of_ble_eq_true rfl), (Nat.le_of_ble_eq_true rfl)⟩ (fun u H locs hφ hP hD hK hS hk => ?_)
  have hP : va_P D vwCl [(h0, .inr (5, [v0, v1, v2, .ref h1, v3, v4, v5, v6, v7, v8])), (h1, .inr (1, [.ref h2, v9, v10, v11, v12, .int 0, v13, v14, v15, v16, v17, v18, v19])), (h2, .inr (0, [v20, v21, .int 2, v22, v23, v24, v25])), (h3, .inr (6, [.int 1, .ref h4, v27, v28, v29, v30, v31, .int 2, v32, v33, v34, v35, v36, v37, v38, v39, v40, v41, v42, v43, v44, v45, v46, v47, v48, v49, v50])), (h4, .inl (a0, 609, .inr (.inl f0)))] H := hP
  have hD : va_D A [(h0, .inr (5, [v0, v1, v2, .ref h1, v3, v4, v5, v6, v7, v8])), (h1, .inr (1, [.ref h2, v9, v10, v11, v12, .int 0, v13, v14, v15, v16, v17, v18, v19])), (h2, .inr (0, [v20, v21, .int 2, v22, v23, v24, v25])), (h3, .inr (6, [.int 1, .ref h4, v27, v28, v29, v30, v31, .int 2, v32, v33, v34, v35, v36, v37, v38, v39, v40, v41, v42, v43, v44, v45, v46, v47, v48, v49, v50])), (h4, .inl (a0, 609, .inr (.inl f0)))] := hD
  have hK : va_K D vwCl [(a0, .long)] s := hK
  refine W.widen (k := 1011) (n := 8904) (Nat.le_of_ble_eq_true rfl) (Nat.le_of_ble_eq_true rfl) ?_
  refine lv_iload hx hb dL_law_571 (lv_at hl 1 rfl) ?_
  refine lv_icmp_eq (tgt := 578) hx hb dL_law_573 (by decide) (fun _ => ?_) (fun c9 => absurd (by decide) c9)
  refine lv_iload hx hb dL_law_578 (lv_at hl 1 rfl) ?_
  refine lv_if_ne (tgt := 595) hx hb dL_law_580 (by decide) (fun _ => ?_) (fun c9 => absurd c9 (by decide))
  refine lv_goto (tgt := 2199) hx hb dL_law_595 (by decide) ?_
  refine W.widen (k := 3000) (n := 30000) (Nat.le_of_ble_eq_true rfl) (Nat.le_of_ble_eq_true rfl) ?_
  exact kk _ _ _ hS (lv_sub hl [2, 6] rfl)
set_option maxHeartbeats 4000000 in
set_option maxRecDepth 100000 in
theorem law_8_0 {p : Program} {e : Env} {s : State} {m : MethodId} {below : List Frame} {meth : Method} {c : Code} (l : Launch) (hlt : l.stackTraces = false) {b : Nat} {xs : Nat → Int32} (hx : p.tables.exec = Jvm.exec) (hb : c.code = cL_law) (hml : c.maxLocals = 9) (hown : s.vm.findClass RL = some m.cls) (hg : ∀ w ∈ GW, w.before #[Value.ref b] s = true) (hXs : va_X b 6 xs s s.heap) (hbl : b < s.heap.size) (D : va_G) {A : Nat → Prop} (hA : ∀ q, s.heap.size ≤ q → A q) (hbA : ¬ A b) (hX : XX A s s.heap) (Q : State → Prop) (h0 : Nat) (h1 : Nat) (h2 : Nat) (h3 : Nat) (v0 : Value) (v1 : Value) (v2 : Value) (v3 : Value) (v4 : Value) (v5 : Value) (v6 : Value) (v7 : Value) (v8 : Value) (v9 : Value) (v10 : Value) (v11 : Value) (v12 : Value) (v13 : Value) (v14 : Value) (v15 : Value) (v16 : Value) (v17 : Value) (v18 : Value) (v19 : Value) (v20 : Value) (v21 : Value) (v22 : Value) (v23 : Value) (v24 : Value) (v25 : Value) (v26 : Value) (v27 : Value) (v28 : Value) (v29 : Value) (v30 : Value) (v31 : Value) (v32 : Value) (v33 : Value) (v34 : Value) (v35 : Value) (v36 : Value) (v37 : Value) (v38 : Value) (v39 : Value) (v40 : Value)  (p1 : Int32) (e1 : xs 1 = p1) (bl1 : (-2147483648) ≤ p1.toInt) (bh1 : p1.toInt ≤ (-1)) (e2 : xs 2 = 0) {H : Heap} {locs : List Loc} {ls : Array Slot} (hP : va_P D vwCl [(h0, .inr (5, [v0, .ref h1, v1, v2, v3, v4, v5, v6, v7, v8])), (h1, .inr (0, [v9, v10, .int 2, v11, v12, v13, v14])), (h2, .inr (6, [v15, v16, v17, v18, v19, v20, v21, .int 2, v22, v23, v24, v25, v26, v27, v28, v29, v30, v31, v32, v33, v34, v35, v36, v37, v38, v39, v40]))] H) (hD : va_D A [(h0, .inr (5, [v0, .ref h1, v1, v2, v3, v4, v5, v6, v7, v8])), (h1, .inr (0, [v9, v10, .int 2, v11, v12, v13, v14])), (h2, .inr (6, [v15, v16, v17, v18, v19, v20, v21, .int 2, v22, v23, v24, v25, v26, v27, v28, v29, v30, v31, v32, v33, v34, v35, v36, v37, v38, v39, v40]))]) (hK : va_K D vwCl [] s) (hS : va_S A s.heap H locs) (hl : lv_has ls 9 [(4, .int 0), (3, .ref h3), (2, .ref h2), (1, .ref h0), (0, .ref b)]) (kk : ∀ (H : Heap) (locs : List Loc) (ls : Array Slot), va_S A s.heap H locs → lv_has ls 9 [(4, .int 0), (0, .ref b)] → W p l e room_1 s m #[Value.ref b] below meth c H locs 3000 30000 Q (F0 m 2199 ls [])) : W p l e room_1 s m #[Value.ref b] below meth c H locs 1010 8898 Q (F0 m 598 ls []) := by
  have d0 : p1 < 0 := i_lt (by have h0 : (0 : Int32).toInt = 0 := (by decide); omega)
  have d1 : (lg_cmp p1.toInt64 0) < 0 := lgq1 (by have h0 : (0 : Int64).toInt = 0 := (by decide); have hp1 := i2lI p1; omega)
  refine lv_aload_n hx hb dL_law_598 rfl (lv_at hl 3 rfl) ?_
  refine lv_aload_n hx hb dL_law_599 rfl (lv_at hl 4 rfl) ?_
  refine lv_iload hx hb dL_law_600 (lv_at hl 0 rfl) ?_
  refine lv_iconst (v := 1) hx hb dL_law_602 (by decide) ?_
  refine lv_iadd hx hb dL_law_603 ?_
  refine ti (1) (by decide) ?_
  refine va_sld hx hb hXs hbl hbA hS (vin (by decide)) dL_law_604 ?_
  refine ti p1 e1 ?_
  refine lv_aload_n hx hb dL_law_605 rfl (lv_at hl 4 rfl) ?_
  refine lv_iload hx hb dL_law_606 (lv_at hl 0 rfl) ?_
  refine lv_iconst (v := 2) hx hb dL_law_608 (by decide) ?_
  refine lv_iadd hx hb dL_law_609 ?_
  refine ti (2) (by decide) ?_
  refine va_sld hx hb hXs hbl hbA hS (vin (by decide)) dL_law_610 ?_
  refine ti 0 e2 ?_
  refine lv_if_eq (tgt := 618) hx hb dL_law_611 (by decide) (fun _ => ?_) (fun c9 => absurd (by decide) c9)
  refine lv_iconst (v := 0) hx hb dL_law_618 (by decide) ?_
  refine lv_aload_n hx hb dL_law_619 rfl (lv_at hl 1 rfl) ?_
  refine cHi (n := 4) (As := [.ref h0, .int p1, .int 0, .ref h3]) (rest := []) (wr := [(h0, .inr (5, [v0, .ref h1, v1, v2, v3, v4, v5, v6, v7, v8])), (h1, .inr (0, [v9, v10, .int 2, v11, v12, v13, v14])), (h2, .inr (6, [v15, v16, v17, v18, v19, v20, v21, .int 2, v22, v23, v24, v25, v26, v27, v28, v29, v30, v31, v32, v33, v34, v35, v36, v37, v38, v39, v40]))]) (tr := []) hx hb hml hown hg okXX (cL_neighbour_636 l D hlt h0 p1 h3 h1 v0 v1 v2 v3 v4 v5 v6 v7 v8 v9 v10 v11 v12 v13 v14 d0) (mwHS k874 k875 k83 k876) ⟨by decide, by decide, by decide +kernel⟩ ⟨rfl, rfl, (Nat.le_of_ble_eq_true rfl), (Nat.le_of_ble_eq_true rfl)⟩ hP hD hK hS (okXX.2.2 _ _ _ _ hS.2.1 hX) [0, 1] [] [0, 1, 2] [] [] rfl (by decide) rfl rfl (by decide) (by decide) rfl rfl (aNil hA hS) (aNil hA hS) rfl hl.1 rfl (Nat.le_of_ble_eq_true rfl) dL_law_620 ⟨(Nat.le_of_ble_eq_true rfl), (Nat.le_of_ble_eq_true rfl)⟩ (fun u H locs hφ hP hD hK hS hk => ?_)
  have hP : va_P D vwCl [(h0, .inr (5, [v0, .ref h1, v1, v2, v3, v4, v5, v6, v7, v8])), (h1, .inr (0, [v9, v10, .int 2, v11, v12, v13, v14])), (h2, .inr (6, [v15, v16, v17, v18, v19, v20, v21, .int 2, v22, v23, v24, v25, v26, v27, v28, v29, v30, v31, v32, v33, v34, v35, v36, v37, v38, v39, v40]))] H := hP
  have hD : va_D A [(h0, .inr (5, [v0, .ref h1, v1, v2, v3, v4, v5, v6, v7, v8])), (h1, .inr (0, [v9, v10, .int 2, v11, v12, v13, v14])), (h2, .inr (6, [v15, v16, v17, v18, v19, v20, v21, .int 2, v22, v23, v24, v25, v26, v27, v28, v29, v30, v31, v32, v33, v34, v35, v36, v37, v38, v39, v40]))] := hD
  have hK : va_K D vwCl [] s := hK
  refine W.widen (k := 1011) (n := 8904) (Nat.le_of_ble_eq_true rfl) (Nat.le_of_ble_eq_true rfl) ?_
  refine lv_istore (lv' := [(5, .int 1), (4, .int 0), (3, .ref h3), (2, .ref h2), (1, .ref h0), (0, .ref b)]) hx hb dL_law_623 hl (by decide) rfl (fun ls hl => ?_)
  refine lv_aload_n hx hb dL_law_625 rfl (lv_at hl 3 rfl) ?_
  refine lv_aload_n hx hb dL_law_626 rfl (lv_at hl 5 rfl) ?_
  refine lv_iload hx hb dL_law_627 (lv_at hl 1 rfl) ?_
  refine lv_iconst (v := 1) hx hb dL_law_629 (by decide) ?_
  refine lv_iadd hx hb dL_law_630 ?_
  refine ti (1) (by decide) ?_
  refine va_sld hx hb hXs hbl hbA hS (vin (by decide)) dL_law_631 ?_
  refine ti p1 e1 ?_
  refine lv_aload_n hx hb dL_law_632 rfl (lv_at hl 5 rfl) ?_
  refine lv_iload hx hb dL_law_633 (lv_at hl 1 rfl) ?_
  refine lv_iconst (v := 2) hx hb dL_law_635 (by decide) ?_
  refine lv_iadd hx hb dL_law_636 ?_
  refine ti (2) (by decide) ?_
  refine va_sld hx hb hXs hbl hbA hS (vin (by decide)) dL_law_637 ?_
  refine ti 0 e2 ?_
  refine lv_if_eq (tgt := 645) hx hb dL_law_638 (by decide) (fun _ => ?_) (fun c9 => absurd (by decide) c9)
  refine lv_iconst (v := 0) hx hb dL_law_645 (by decide) ?_
  refine cVi (n := 2) (As := [.int p1, .int 0]) (rest := []) (wr := [(h0, .inr (5, [v0, .ref h1, v1, v2, v3, v4, v5, v6, v7, v8])), (h1, .inr (0, [v9, v10, .int 2, v11, v12, v13, v14]))]) (tr := []) hx hb hml hown hg okN (cX6_neighbour_95 l D h2 p1 v15 v16 v17 v18 v19 v20 v21 v22 v23 v24 v25 v26 v27 v28 v29 v30 v31 v32 v33 v34 v35 v36 v37 v38 v39 v40 d1) (mwV k1453 k1454 k1455 k92 k1456) ⟨rfl, by decide, by decide, by decide +kernel⟩ ⟨rfl, rfl, (Nat.le_of_ble_eq_true rfl), (Nat.le_of_ble_eq_true rfl)⟩ hP hD hK hS xn [2] [2] [0, 1] [] [] rfl (by decide) rfl rfl (by decide) (by decide) rfl rfl (va_free hD hS hA [2] rfl) (va_free hD hS hA [2] rfl) 2 rfl rfl rfl hl.1 rfl (Nat.le_of_ble_eq_true rfl) dL_law_646 ⟨(Nat.le_of_ble_eq_true rfl), (Nat.le_of_ble_eq_true rfl)⟩ (fun u H locs hφ hP hD hK hS hk => ?_)
  have hP : va_P D vwCl [(h0, .inr (5, [v0, .ref h1, v1, v2, v3, v4, v5, v6, v7, v8])), (h1, .inr (0, [v9, v10, .int 2, v11, v12, v13, v14])), (h2, .inr (6, [.int 1, v16, v17, v18, v19, v20, v21, .int 2, v22, v23, v24, v25, v26, v27, v28, v29, v30, v31, v32, v33, v34, v35, v36, v37, v38, v39, v40]))] H := hP
  have hD : va_D A [(h0, .inr (5, [v0, .ref h1, v1, v2, v3, v4, v5, v6, v7, v8])), (h1, .inr (0, [v9, v10, .int 2, v11, v12, v13, v14])), (h2, .inr (6, [.int 1, v16, v17, v18, v19, v20, v21, .int 2, v22, v23, v24, v25, v26, v27, v28, v29, v30, v31, v32, v33, v34, v35, v36, v37, v38, v39, v40]))] := hD
  have hK : va_K D vwCl [] s := hK
  refine W.widen (k := 1011) (n := 8904) (Nat.le_of_ble_eq_true rfl) (Nat.le_of_ble_eq_true rfl) ?_
  refine lv_istore (lv' := [(6, .int 0), (5, .int 1), (4, .int 0), (3, .ref h3), (2, .ref h2), (1, .ref h0), (0, .ref b)]) hx hb dL_law_649 hl (by decide) rfl (fun ls hl => ?_)
  refine lv_aload_n hx hb dL_law_651 rfl (lv_at hl 4 rfl) ?_
  refine cVi (n := 0) (As := []) (rest := []) (wr := [(h0, .inr (5, [v0, .ref h1, v1, v2, v3, v4, v5, v6, v7, v8])), (h1, .inr (0, [v9, v10, .int 2, v11, v12, v13, v14])), (h2, .inr (6, [.int 1, v16, v17, v18, v19, v20, v21, .int 2, v22, v23, v24, v25, v26, v27, v28, v29, v30, v31, v32, v33, v34, v35, v36, v37, v38, v39, v40]))]) (tr := []) hx hb hml hown hg okN (cX6_thrown_601 l D h2 v16 v17 v18 v19 v20 v21 (.int 2) v22 v23 v24 v25 v26 v27 v28 v29 v30 v31 v32 v33 v34 v35 v36 v37 v38 v39 v40) (mwV k1301 k1302 k1303 k92 k1304) ⟨rfl, by decide, by decide, by decide +kernel⟩ ⟨rfl, rfl, (Nat.le_of_ble_eq_true rfl), (Nat.le_of_ble_eq_true rfl)⟩ hP hD hK hS xn [2] [] [0, 1, 2] [] [] rfl (by decide) rfl rfl (by decide) (by decide) rfl rfl (aNil hA hS) (aNil hA hS) 2 rfl rfl rfl hl.1 rfl (Nat.le_of_ble_eq_true rfl) dL_law_652 ⟨(Nat.le_of_ble_eq_true rfl), (Nat.le_of_ble_eq_true rfl)⟩ (fun u H locs hφ hP hD hK hS hk => ?_)
  have hP : va_P D vwCl [(h0, .inr (5, [v0, .ref h1, v1, v2, v3, v4, v5, v6, v7, v8])), (h1, .inr (0, [v9, v10, .int 2, v11, v12, v13, v14])), (h2, .inr (6, [.int 1, v16, v17, v18, v19, v20, v21, .int 2, v22, v23, v24, v25, v26, v27, v28, v29, v30, v31, v32, v33, v34, v35, v36, v37, v38, v39, v40]))] H := hP
  have hD : va_D A [(h0, .inr (5, [v0, .ref h1, v1, v2, v3, v4, v5, v6, v7, v8])), (h1, .inr (0, [v9, v10, .int 2, v11, v12, v13, v14])), (h2, .inr (6, [.int 1, v16, v17, v18, v19, v20, v21, .int 2, v22, v23, v24, v25, v26, v27, v28, v29, v30, v31, v32, v33, v34, v35, v36, v37, v38, v39, v40]))] := hD
  have hK : va_K D vwCl [] s := hK
  refine W.widen (k := 1011) (n := 8904) (Nat.le_of_ble_eq_true rfl) (Nat.le_of_ble_eq_true rfl) ?_
  refine lv_iload hx hb dL_law_655 (lv_at hl 1 rfl) ?_
  refine lv_icmp_eq (tgt := 662) hx hb dL_law_657 (by decide) (fun _ => ?_) (fun c9 => absurd (by decide) c9)
  refine lv_iload hx hb dL_law_662 (lv_at hl 1 rfl) ?_
  refine lv_if_ne (tgt := 679) hx hb dL_law_664 (by decide) (fun _ => ?_) (fun c9 => absurd c9 (by decide))
  refine lv_goto (tgt := 2199) hx hb dL_law_679 (by decide) ?_
  refine W.widen (k := 3000) (n := 30000) (Nat.le_of_ble_eq_true rfl) (Nat.le_of_ble_eq_true rfl) ?_
  exact kk _ _ _ hS (lv_sub hl [2, 6] rfl)
set_option maxHeartbeats 4000000 in
set_option maxRecDepth 100000 in
theorem law_8_1 {p : Program} {e : Env} {s : State} {m : MethodId} {below : List Frame} {meth : Method} {c : Code} (l : Launch) (hlt : l.stackTraces = false) {b : Nat} {xs : Nat → Int32} (hx : p.tables.exec = Jvm.exec) (hb : c.code = cL_law) (hml : c.maxLocals = 9) (hown : s.vm.findClass RL = some m.cls) (hg : ∀ w ∈ GW, w.before #[Value.ref b] s = true) (hXs : va_X b 6 xs s s.heap) (hbl : b < s.heap.size) (D : va_G) {A : Nat → Prop} (hA : ∀ q, s.heap.size ≤ q → A q) (hbA : ¬ A b) (hX : XX A s s.heap) (Q : State → Prop) (h0 : Nat) (h1 : Nat) (h2 : Nat) (h3 : Nat) (v0 : Value) (v1 : Value) (v2 : Value) (v3 : Value) (v4 : Value) (v5 : Value) (v6 : Value) (v7 : Value) (v8 : Value) (v9 : Value) (v10 : Value) (v11 : Value) (v12 : Value) (v13 : Value) (v14 : Value) (v15 : Value) (v16 : Value) (v17 : Value) (v18 : Value) (v19 : Value) (v20 : Value) (v21 : Value) (v22 : Value) (v23 : Value) (v24 : Value) (v25 : Value) (v26 : Value) (v27 : Value) (v28 : Value) (v29 : Value) (v30 : Value) (v31 : Value) (v32 : Value) (v33 : Value) (v34 : Value) (v35 : Value) (v36 : Value) (v37 : Value) (v38 : Value) (v39 : Value) (v40 : Value)  (p1 : Int32) (e1 : xs 1 = p1) (bl1 : (-2147483648) ≤ p1.toInt) (bh1 : p1.toInt ≤ (-1)) (p2 : Int32) (e2 : xs 2 = p2) (n2 : ¬ p2 = 0) {H : Heap} {locs : List Loc} {ls : Array Slot} (hP : va_P D vwCl [(h0, .inr (5, [v0, .ref h1, v1, v2, v3, v4, v5, v6, v7, v8])), (h1, .inr (0, [v9, v10, .int 2, v11, v12, v13, v14])), (h2, .inr (6, [v15, v16, v17, v18, v19, v20, v21, .int 2, v22, v23, v24, v25, v26, v27, v28, v29, v30, v31, v32, v33, v34, v35, v36, v37, v38, v39, v40]))] H) (hD : va_D A [(h0, .inr (5, [v0, .ref h1, v1, v2, v3, v4, v5, v6, v7, v8])), (h1, .inr (0, [v9, v10, .int 2, v11, v12, v13, v14])), (h2, .inr (6, [v15, v16, v17, v18, v19, v20, v21, .int 2, v22, v23, v24, v25, v26, v27, v28, v29, v30, v31, v32, v33, v34, v35, v36, v37, v38, v39, v40]))]) (hK : va_K D vwCl [] s) (hS : va_S A s.heap H locs) (hl : lv_has ls 9 [(4, .int 0), (3, .ref h3), (2, .ref h2), (1, .ref h0), (0, .ref b)]) (kk : ∀ (H : Heap) (locs : List Loc) (ls : Array Slot), va_S A s.heap H locs → lv_has ls 9 [(4, .int 0), (0, .ref b)] → W p l e room_1 s m #[Value.ref b] below meth c H locs 3000 30000 Q (F0 m 2199 ls [])) : W p l e room_1 s m #[Value.ref b] below meth c H locs 1010 8898 Q (F0 m 598 ls []) := by
  have d0 : ¬ (p2 = 0) := n2
  have d1 : p1 < 0 := i_lt (by have h0 : (0 : Int32).toInt = 0 := (by decide); omega)
  have d2 : (lg_cmp p1.toInt64 0) < 0 := lgq1 (by have h0 : (0 : Int64).toInt = 0 := (by decide); have hp1 := i2lI p1; omega)
  refine lv_aload_n hx hb dL_law_598 rfl (lv_at hl 3 rfl) ?_
  refine lv_aload_n hx hb dL_law_599 rfl (lv_at hl 4 rfl) ?_
  refine lv_iload hx hb dL_law_600 (lv_at hl 0 rfl) ?_
  refine lv_iconst (v := 1) hx hb dL_law_602 (by decide) ?_
  refine lv_iadd hx hb dL_law_603 ?_
  refine ti (1) (by decide) ?_
  refine va_sld hx hb hXs hbl hbA hS (vin (by decide)) dL_law_604 ?_
  refine ti p1 e1 ?_
  refine lv_aload_n hx hb dL_law_605 rfl (lv_at hl 4 rfl) ?_
  refine lv_iload hx hb dL_law_606 (lv_at hl 0 rfl) ?_
  refine lv_iconst (v := 2) hx hb dL_law_608 (by decide) ?_
  refine lv_iadd hx hb dL_law_609 ?_
  refine ti (2) (by decide) ?_
  refine va_sld hx hb hXs hbl hbA hS (vin (by decide)) dL_law_610 ?_
  refine ti p2 e2 ?_
  refine lv_if_eq (tgt := 618) hx hb dL_law_611 (by decide) (fun c9 => absurd c9 d0) (fun _ => ?_)
  refine lv_iconst (v := 1) hx hb dL_law_614 (by decide) ?_
  refine lv_goto (tgt := 619) hx hb dL_law_615 (by decide) ?_
  refine lv_aload_n hx hb dL_law_619 rfl (lv_at hl 1 rfl) ?_
  refine cHi (n := 4) (As := [.ref h0, .int p1, .int 1, .ref h3]) (rest := []) (wr := [(h0, .inr (5, [v0, .ref h1, v1, v2, v3, v4, v5, v6, v7, v8])), (h1, .inr (0, [v9, v10, .int 2, v11, v12, v13, v14])), (h2, .inr (6, [v15, v16, v17, v18, v19, v20, v21, .int 2, v22, v23, v24, v25, v26, v27, v28, v29, v30, v31, v32, v33, v34, v35, v36, v37, v38, v39, v40]))]) (tr := []) hx hb hml hown hg okXX (cL_neighbour_637 l D hlt h0 p1 h3 h1 v0 v1 v2 v3 v4 v5 v6 v7 v8 v9 v10 v11 v12 v13 v14 d1) (mwHS k874 k875 k83 k876) ⟨by decide, by decide, by decide +kernel⟩ ⟨rfl, rfl, (Nat.le_of_ble_eq_true rfl), (Nat.le_of_ble_eq_true rfl)⟩ hP hD hK hS (okXX.2.2 _ _ _ _ hS.2.1 hX) [0, 1] [] [0, 1, 2] [] [] rfl (by decide) rfl rfl (by decide) (by decide) rfl rfl (aNil hA hS) (aNil hA hS) rfl hl.1 rfl (Nat.le_of_ble_eq_true rfl) dL_law_620 ⟨(Nat.le_of_ble_eq_true rfl), (Nat.le_of_ble_eq_true rfl)⟩ (fun u H locs hφ hP hD hK hS hk => ?_)
  have hP : va_P D vwCl [(h0, .inr (5, [v0, .ref h1, v1, v2, v3, v4, v5, v6, v7, v8])), (h1, .inr (0, [v9, v10, .int 2, v11, v12, v13, v14])), (h2, .inr (6, [v15, v16, v17, v18, v19, v20, v21, .int 2, v22, v23, v24, v25, v26, v27, v28, v29, v30, v31, v32, v33, v34, v35, v36, v37, v38, v39, v40]))] H := hP
  have hD : va_D A [(h0, .inr (5, [v0, .ref h1, v1, v2, v3, v4, v5, v6, v7, v8])), (h1, .inr (0, [v9, v10, .int 2, v11, v12, v13, v14])), (h2, .inr (6, [v15, v16, v17, v18, v19, v20, v21, .int 2, v22, v23, v24, v25, v26, v27, v28, v29, v30, v31, v32, v33, v34, v35, v36, v37, v38, v39, v40]))] := hD
  have hK : va_K D vwCl [] s := hK
  refine W.widen (k := 1011) (n := 8904) (Nat.le_of_ble_eq_true rfl) (Nat.le_of_ble_eq_true rfl) ?_
  refine lv_istore (lv' := [(5, .int 1), (4, .int 0), (3, .ref h3), (2, .ref h2), (1, .ref h0), (0, .ref b)]) hx hb dL_law_623 hl (by decide) rfl (fun ls hl => ?_)
  refine lv_aload_n hx hb dL_law_625 rfl (lv_at hl 3 rfl) ?_
  refine lv_aload_n hx hb dL_law_626 rfl (lv_at hl 5 rfl) ?_
  refine lv_iload hx hb dL_law_627 (lv_at hl 1 rfl) ?_
  refine lv_iconst (v := 1) hx hb dL_law_629 (by decide) ?_
  refine lv_iadd hx hb dL_law_630 ?_
  refine ti (1) (by decide) ?_
  refine va_sld hx hb hXs hbl hbA hS (vin (by decide)) dL_law_631 ?_
  refine ti p1 e1 ?_
  refine lv_aload_n hx hb dL_law_632 rfl (lv_at hl 5 rfl) ?_
  refine lv_iload hx hb dL_law_633 (lv_at hl 1 rfl) ?_
  refine lv_iconst (v := 2) hx hb dL_law_635 (by decide) ?_
  refine lv_iadd hx hb dL_law_636 ?_
  refine ti (2) (by decide) ?_
  refine va_sld hx hb hXs hbl hbA hS (vin (by decide)) dL_law_637 ?_
  refine ti p2 e2 ?_
  refine lv_if_eq (tgt := 645) hx hb dL_law_638 (by decide) (fun c9 => absurd c9 d0) (fun _ => ?_)
  refine lv_iconst (v := 1) hx hb dL_law_641 (by decide) ?_
  refine lv_goto (tgt := 646) hx hb dL_law_642 (by decide) ?_
  refine cVi (n := 2) (As := [.int p1, .int 1]) (rest := []) (wr := [(h0, .inr (5, [v0, .ref h1, v1, v2, v3, v4, v5, v6, v7, v8])), (h1, .inr (0, [v9, v10, .int 2, v11, v12, v13, v14]))]) (tr := []) hx hb hml hown hg okN (cX6_neighbour_96 l D h2 p1 v15 v16 v17 v18 v19 v20 v21 v22 v23 v24 v25 v26 v27 v28 v29 v30 v31 v32 v33 v34 v35 v36 v37 v38 v39 v40 d2) (mwV k1453 k1454 k1455 k92 k1456) ⟨rfl, by decide, by decide, by decide +kernel⟩ ⟨rfl, rfl, (Nat.le_of_ble_eq_true rfl), (Nat.le_of_ble_eq_true rfl)⟩ hP hD hK hS xn [2] [2] [0, 1] [] [] rfl (by decide) rfl rfl (by decide) (by decide) rfl rfl (va_free hD hS hA [2] rfl) (va_free hD hS hA [2] rfl) 2 rfl rfl rfl hl.1 rfl (Nat.le_of_ble_eq_true rfl) dL_law_646 ⟨(Nat.le_of_ble_eq_true rfl), (Nat.le_of_ble_eq_true rfl)⟩ (fun u H locs hφ hP hD hK hS hk => ?_)
  have hP : va_P D vwCl [(h0, .inr (5, [v0, .ref h1, v1, v2, v3, v4, v5, v6, v7, v8])), (h1, .inr (0, [v9, v10, .int 2, v11, v12, v13, v14])), (h2, .inr (6, [.int 1, v16, v17, v18, v19, v20, v21, .int 2, v22, v23, v24, v25, v26, v27, v28, v29, v30, v31, v32, v33, v34, v35, v36, v37, v38, v39, v40]))] H := hP
  have hD : va_D A [(h0, .inr (5, [v0, .ref h1, v1, v2, v3, v4, v5, v6, v7, v8])), (h1, .inr (0, [v9, v10, .int 2, v11, v12, v13, v14])), (h2, .inr (6, [.int 1, v16, v17, v18, v19, v20, v21, .int 2, v22, v23, v24, v25, v26, v27, v28, v29, v30, v31, v32, v33, v34, v35, v36, v37, v38, v39, v40]))] := hD
  have hK : va_K D vwCl [] s := hK
  refine W.widen (k := 1011) (n := 8904) (Nat.le_of_ble_eq_true rfl) (Nat.le_of_ble_eq_true rfl) ?_
  refine lv_istore (lv' := [(6, .int 0), (5, .int 1), (4, .int 0), (3, .ref h3), (2, .ref h2), (1, .ref h0), (0, .ref b)]) hx hb dL_law_649 hl (by decide) rfl (fun ls hl => ?_)
  refine lv_aload_n hx hb dL_law_651 rfl (lv_at hl 4 rfl) ?_
  refine cVi (n := 0) (As := []) (rest := []) (wr := [(h0, .inr (5, [v0, .ref h1, v1, v2, v3, v4, v5, v6, v7, v8])), (h1, .inr (0, [v9, v10, .int 2, v11, v12, v13, v14])), (h2, .inr (6, [.int 1, v16, v17, v18, v19, v20, v21, .int 2, v22, v23, v24, v25, v26, v27, v28, v29, v30, v31, v32, v33, v34, v35, v36, v37, v38, v39, v40]))]) (tr := []) hx hb hml hown hg okN (cX6_thrown_601 l D h2 v16 v17 v18 v19 v20 v21 (.int 2) v22 v23 v24 v25 v26 v27 v28 v29 v30 v31 v32 v33 v34 v35 v36 v37 v38 v39 v40) (mwV k1301 k1302 k1303 k92 k1304) ⟨rfl, by decide, by decide, by decide +kernel⟩ ⟨rfl, rfl, (Nat.le_of_ble_eq_true rfl), (Nat.le_of_ble_eq_true rfl)⟩ hP hD hK hS xn [2] [] [0, 1, 2] [] [] rfl (by decide) rfl rfl (by decide) (by decide) rfl rfl (aNil hA hS) (aNil hA hS) 2 rfl rfl rfl hl.1 rfl (Nat.le_of_ble_eq_true rfl) dL_law_652 ⟨(Nat.le_of_ble_eq_true rfl), (Nat.le_of_ble_eq_true rfl)⟩ (fun u H locs hφ hP hD hK hS hk => ?_)
  have hP : va_P D vwCl [(h0, .inr (5, [v0, .ref h1, v1, v2, v3, v4, v5, v6, v7, v8])), (h1, .inr (0, [v9, v10, .int 2, v11, v12, v13, v14])), (h2, .inr (6, [.int 1, v16, v17, v18, v19, v20, v21, .int 2, v22, v23, v24, v25, v26, v27, v28, v29, v30, v31, v32, v33, v34, v35, v36, v37, v38, v39, v40]))] H := hP
  have hD : va_D A [(h0, .inr (5, [v0, .ref h1, v1, v2, v3, v4, v5, v6, v7, v8])), (h1, .inr (0, [v9, v10, .int 2, v11, v12, v13, v14])), (h2, .inr (6, [.int 1, v16, v17, v18, v19, v20, v21, .int 2, v22, v23, v24, v25, v26, v27, v28, v29, v30, v31, v32, v33, v34, v35, v36, v37, v38, v39, v40]))] := hD
  have hK : va_K D vwCl [] s := hK
  refine W.widen (k := 1011) (n := 8904) (Nat.le_of_ble_eq_true rfl) (Nat.le_of_ble_eq_true rfl) ?_
  refine lv_iload hx hb dL_law_655 (lv_at hl 1 rfl) ?_
  refine lv_icmp_eq (tgt := 662) hx hb dL_law_657 (by decide) (fun _ => ?_) (fun c9 => absurd (by decide) c9)
  refine lv_iload hx hb dL_law_662 (lv_at hl 1 rfl) ?_
  refine lv_if_ne (tgt := 679) hx hb dL_law_664 (by decide) (fun _ => ?_) (fun c9 => absurd c9 (by decide))
  refine lv_goto (tgt := 2199) hx hb dL_law_679 (by decide) ?_
  refine W.widen (k := 3000) (n := 30000) (Nat.le_of_ble_eq_true rfl) (Nat.le_of_ble_eq_true rfl) ?_
  exact kk _ _ _ hS (lv_sub hl [2, 6] rfl)
set_option maxHeartbeats 4000000 in
set_option maxRecDepth 100000 in
theorem law_8_2 {p : Program} {e : Env} {s : State} {m : MethodId} {below : List Frame} {meth : Method} {c : Code} (l : Launch) (hlt : l.stackTraces = false) {b : Nat} {xs : Nat → Int32} (hx : p.tables.exec = Jvm.exec) (hb : c.code = cL_law) (hml : c.maxLocals = 9) (hown : s.vm.findClass RL = some m.cls) (hg : ∀ w ∈ GW, w.before #[Value.ref b] s = true) (hXs : va_X b 6 xs s s.heap) (hbl : b < s.heap.size) (D : va_G) {A : Nat → Prop} (hA : ∀ q, s.heap.size ≤ q → A q) (hbA : ¬ A b) (hX : XX A s s.heap) (Q : State → Prop) (h0 : Nat) (h1 : Nat) (h2 : Nat) (h3 : Nat) (h4 : Nat) (v0 : Value) (v1 : Value) (v2 : Value) (v3 : Value) (v4 : Value) (v5 : Value) (v6 : Value) (v7 : Value) (v8 : Value) (v9 : Value) (v10 : Value) (v11 : Value) (v12 : Value) (v13 : Value) (v14 : Value) (v15 : Value) (v16 : Value) (v17 : Value) (v18 : Value) (v19 : Value) (v20 : Value) (v21 : Value) (v22 : Value) (v23 : Value) (v24 : Value) (v25 : Value) (v26 : Value) (f0 : Nat → Int64) (v27 : Value) (v28 : Value) (v29 : Value) (v30 : Value) (v31 : Value) (v32 : Value) (v33 : Value) (v34 : Value) (v35 : Value) (v36 : Value) (v37 : Value) (v38 : Value) (v39 : Value) (v40 : Value) (v41 : Value) (v42 : Value) (v43 : Value) (v44 : Value) (v45 : Value) (v46 : Value) (v47 : Value) (v48 : Value) (v49 : Value) (v50 : Value) (v51 : Value) (v52 : Value) (a0 : ClassId)  (e1 : xs 1 = 0) (e2 : xs 2 = 0) {H : Heap} {locs : List Loc} {ls : Array Slot} (hP : va_P D vwCl [(h0, .inr (5, [v0, .ref h1, v1, .ref h2, v2, v3, v4, v5, v6, v7])), (h1, .inr (0, [v8, v9, .int 2, v10, v11, v12, v13])), (h2, .inr (1, [v14, v15, v16, v17, v18, v19, v20, v21, v22, v23, v24, v25, v26])), (h3, .inl (a0, 1, .inr (.inl f0))), (h4, .inr (6, [v27, v28, v29, v30, v31, v32, v33, .int 2, v34, v35, v36, v37, v38, v39, v40, v41, v42, v43, v44, v45, v46, v47, v48, v49, v50, v51, v52]))] H) (hD : va_D A [(h0, .inr (5, [v0, .ref h1, v1, .ref h2, v2, v3, v4, v5, v6, v7])), (h1, .inr (0, [v8, v9, .int 2, v10, v11, v12, v13])), (h2, .inr (1, [v14, v15, v16, v17, v18, v19, v20, v21, v22, v23, v24, v25, v26])), (h3, .inl (a0, 1, .inr (.inl f0))), (h4, .inr (6, [v27, v28, v29, v30, v31, v32, v33, .int 2, v34, v35, v36, v37, v38, v39, v40, v41, v42, v43, v44, v45, v46, v47, v48, v49, v50, v51, v52]))]) (hK : va_K D vwCl [(a0, .long)] s) (hS : va_S A s.heap H locs) (hl : lv_has ls 9 [(4, .int 0), (3, .ref h3), (2, .ref h4), (1, .ref h0), (0, .ref b)]) (kk : ∀ (H : Heap) (locs : List Loc) (ls : Array Slot), va_S A s.heap H locs → lv_has ls 9 [(4, .int 0), (0, .ref b)] → W p l e room_1 s m #[Value.ref b] below meth c H locs 3000 30000 Q (F0 m 2199 ls [])) : W p l e room_1 s m #[Value.ref b] below meth c H locs 1010 8898 Q (F0 m 598 ls []) := by
  refine lv_aload_n hx hb dL_law_598 rfl (lv_at hl 3 rfl) ?_
  refine lv_aload_n hx hb dL_law_599 rfl (lv_at hl 4 rfl) ?_
  refine lv_iload hx hb dL_law_600 (lv_at hl 0 rfl) ?_
  refine lv_iconst (v := 1) hx hb dL_law_602 (by decide) ?_
  refine lv_iadd hx hb dL_law_603 ?_
  refine ti (1) (by decide) ?_
  refine va_sld hx hb hXs hbl hbA hS (vin (by decide)) dL_law_604 ?_
  refine ti 0 e1 ?_
  refine lv_aload_n hx hb dL_law_605 rfl (lv_at hl 4 rfl) ?_
  refine lv_iload hx hb dL_law_606 (lv_at hl 0 rfl) ?_
  refine lv_iconst (v := 2) hx hb dL_law_608 (by decide) ?_
  refine lv_iadd hx hb dL_law_609 ?_
  refine ti (2) (by decide) ?_
  refine va_sld hx hb hXs hbl hbA hS (vin (by decide)) dL_law_610 ?_
  refine ti 0 e2 ?_
  refine lv_if_eq (tgt := 618) hx hb dL_law_611 (by decide) (fun _ => ?_) (fun c9 => absurd (by decide) c9)
  refine lv_iconst (v := 0) hx hb dL_law_618 (by decide) ?_
  refine lv_aload_n hx hb dL_law_619 rfl (lv_at hl 1 rfl) ?_
  refine cHi (n := 4) (As := [.ref h0, .int 0, .int 0, .ref h3]) (rest := []) (wr := [(h4, .inr (6, [v27, v28, v29, v30, v31, v32, v33, .int 2, v34, v35, v36, v37, v38, v39, v40, v41, v42, v43, v44, v45, v46, v47, v48, v49, v50, v51, v52]))]) (tr := []) hx hb hml hown hg okN (cL_neighbour_638 l D h0 h3 h1 h2 v0 v1 v2 v3 v4 v5 v6 v7 f0 v8 v9 v10 v11 v12 v13 v14 v15 v16 v17 v18 v19 v20 v21 v22 v23 v24 v25 v26 a0) (mwHS k874 k875 k83 k876) ⟨by decide, by decide, by decide +kernel⟩ ⟨rfl, rfl, (Nat.le_of_ble_eq_true rfl), (Nat.le_of_ble_eq_true rfl)⟩ hP hD hK hS xn [0, 3, 1, 2] [0, 3, 1, 2] [4] [0] [] rfl (by decide) rfl rfl (by decide) (by decide) rfl rfl (va_free hD hS hA [0, 3, 1, 2] rfl) (va_free hD hS hA [0, 3, 1, 2] rfl) rfl hl.1 rfl (Nat.le_of_ble_eq_true rfl) dL_law_620 ⟨(Nat.le_of_ble_eq_true rfl), (Nat.le_of_ble_eq_true rfl)⟩ (fun u H locs hφ hP hD hK hS hk => ?_)
  have hP : va_P D vwCl [(h4, .inr (6, [v27, v28, v29, v30, v31, v32, v33, .int 2, v34, v35, v36, v37, v38, v39, v40, v41, v42, v43, v44, v45, v46, v47, v48, v49, v50, v51, v52])), (h0, .inr (5, [v0, .ref h1, v1, .ref h2, v2, v3, v4, v5, v6, v7])), (h3, .inl (a0, 1, .inr (.inl (vp_updL f0 0 (-1))))), (h1, .inr (0, [v8, v9, .int 2, v10, v11, v12, v13])), (h2, .inr (1, [v14, v15, v16, v17, v18, v19, v20, v21, v22, v23, v24, v25, v26]))] H := hP
  have hD : va_D A [(h4, .inr (6, [v27, v28, v29, v30, v31, v32, v33, .int 2, v34, v35, v36, v37, v38, v39, v40, v41, v42, v43, v44, v45, v46, v47, v48, v49, v50, v51, v52])), (h0, .inr (5, [v0, .ref h1, v1, .ref h2, v2, v3, v4, v5, v6, v7])), (h3, .inl (a0, 1, .inr (.inl (vp_updL f0 0 (-1))))), (h1, .inr (0, [v8, v9, .int 2, v10, v11, v12, v13])), (h2, .inr (1, [v14, v15, v16, v17, v18, v19, v20, v21, v22, v23, v24, v25, v26]))] := hD
  have hK : va_K D vwCl [(a0, .long)] s := hK
  refine W.widen (k := 1010) (n := 8898) (Nat.le_of_ble_eq_true rfl) (Nat.le_of_ble_eq_true rfl) ?_
  refine lv_istore (lv' := [(5, .int 0), (4, .int 0), (3, .ref h3), (2, .ref h4), (1, .ref h0), (0, .ref b)]) hx hb dL_law_623 hl (by decide) rfl (fun ls hl => ?_)
  refine lv_aload_n hx hb dL_law_625 rfl (lv_at hl 3 rfl) ?_
  refine lv_aload_n hx hb dL_law_626 rfl (lv_at hl 5 rfl) ?_
  refine lv_iload hx hb dL_law_627 (lv_at hl 1 rfl) ?_
  refine lv_iconst (v := 1) hx hb dL_law_629 (by decide) ?_
  refine lv_iadd hx hb dL_law_630 ?_
  refine ti (1) (by decide) ?_
  refine va_sld hx hb hXs hbl hbA hS (vin (by decide)) dL_law_631 ?_
  refine ti 0 e1 ?_
  refine lv_aload_n hx hb dL_law_632 rfl (lv_at hl 5 rfl) ?_
  refine lv_iload hx hb dL_law_633 (lv_at hl 1 rfl) ?_
  refine lv_iconst (v := 2) hx hb dL_law_635 (by decide) ?_
  refine lv_iadd hx hb dL_law_636 ?_
  refine ti (2) (by decide) ?_
  refine va_sld hx hb hXs hbl hbA hS (vin (by decide)) dL_law_637 ?_
  refine ti 0 e2 ?_
  refine lv_if_eq (tgt := 645) hx hb dL_law_638 (by decide) (fun _ => ?_) (fun c9 => absurd (by decide) c9)
  refine lv_iconst (v := 0) hx hb dL_law_645 (by decide) ?_
  refine cVi (n := 2) (As := [.int 0, .int 0]) (rest := []) (wr := [(h0, .inr (5, [v0, .ref h1, v1, .ref h2, v2, v3, v4, v5, v6, v7])), (h3, .inl (a0, 1, .inr (.inl (vp_updL f0 0 (-1))))), (h1, .inr (0, [v8, v9, .int 2, v10, v11, v12, v13])), (h2, .inr (1, [v14, v15, v16, v17, v18, v19, v20, v21, v22, v23, v24, v25, v26]))]) (tr := [(a0, .long)]) hx hb hml hown hg okN (cX6_neighbour_97 l D h4 v27 v28 v29 v30 v31 v32 v33 v34 v35 v36 v37 v38 v39 v40 v41 v42 v43 v44 v45 v46 v47 v48 v49 v50 v51 v52) (mwV k1453 k1454 k1455 k92 k1456) ⟨rfl, by decide, by decide, by decide +kernel⟩ ⟨rfl, rfl, (Nat.le_of_ble_eq_true rfl), (Nat.le_of_ble_eq_true rfl)⟩ hP hD hK hS xn [0] [0] [1, 2, 3, 4] [] [0] rfl (by decide) rfl rfl (by decide) (by decide) rfl rfl (va_free hD hS hA [0] rfl) (va_free hD hS hA [0] rfl) 0 rfl rfl rfl hl.1 rfl (Nat.le_of_ble_eq_true rfl) dL_law_646 ⟨(Nat.le_of_ble_eq_true rfl), (Nat.le_of_ble_eq_true rfl)⟩ (fun u H locs hφ hP hD hK hS hk => ?_)
  have hP : va_P D vwCl [(h0, .inr (5, [v0, .ref h1, v1, .ref h2, v2, v3, v4, v5, v6, v7])), (h3, .inl (a0, 1, .inr (.inl (vp_updL f0 0 (-1))))), (h1, .inr (0, [v8, v9, .int 2, v10, v11, v12, v13])), (h2, .inr (1, [v14, v15, v16, v17, v18, v19, v20, v21, v22, v23, v24, v25, v26])), (h4, .inr (6, [.int 0, v28, v29, v30, v31, v32, v33, .int 2, v34, v35, v36, v37, v38, v39, v40, v41, v42, v43, v44, v45, v46, v47, v48, v49, v50, v51, v52]))] H := hP
  have hD : va_D A [(h0, .inr (5, [v0, .ref h1, v1, .ref h2, v2, v3, v4, v5, v6, v7])), (h3, .inl (a0, 1, .inr (.inl (vp_updL f0 0 (-1))))), (h1, .inr (0, [v8, v9, .int 2, v10, v11, v12, v13])), (h2, .inr (1, [v14, v15, v16, v17, v18, v19, v20, v21, v22, v23, v24, v25, v26])), (h4, .inr (6, [.int 0, v28, v29, v30, v31, v32, v33, .int 2, v34, v35, v36, v37, v38, v39, v40, v41, v42, v43, v44, v45, v46, v47, v48, v49, v50, v51, v52]))] := hD
  have hK : va_K D vwCl [(a0, .long)] s := hK
  refine W.widen (k := 1010) (n := 8898) (Nat.le_of_ble_eq_true rfl) (Nat.le_of_ble_eq_true rfl) ?_
  refine lv_istore (lv' := [(6, .int (-1)), (5, .int 0), (4, .int 0), (3, .ref h3), (2, .ref h4), (1, .ref h0), (0, .ref b)]) hx hb dL_law_649 hl (by decide) rfl (fun ls hl => ?_)
  refine lv_aload_n hx hb dL_law_651 rfl (lv_at hl 4 rfl) ?_
  refine cVi (n := 0) (As := []) (rest := []) (wr := [(h0, .inr (5, [v0, .ref h1, v1, .ref h2, v2, v3, v4, v5, v6, v7])), (h3, .inl (a0, 1, .inr (.inl (vp_updL f0 0 (-1))))), (h1, .inr (0, [v8, v9, .int 2, v10, v11, v12, v13])), (h2, .inr (1, [v14, v15, v16, v17, v18, v19, v20, v21, v22, v23, v24, v25, v26])), (h4, .inr (6, [.int 0, v28, v29, v30, v31, v32, v33, .int 2, v34, v35, v36, v37, v38, v39, v40, v41, v42, v43, v44, v45, v46, v47, v48, v49, v50, v51, v52]))]) (tr := [(a0, .long)]) hx hb hml hown hg okN (cX6_thrown_1 l D h4 v28 v29 v30 v31 v32 v33 (.int 2) v34 v35 v36 v37 v38 v39 v40 v41 v42 v43 v44 v45 v46 v47 v48 v49 v50 v51 v52) (mwV k1301 k1302 k1303 k92 k1304) ⟨rfl, by decide, by decide, by decide +kernel⟩ ⟨rfl, rfl, (Nat.le_of_ble_eq_true rfl), (Nat.le_of_ble_eq_true rfl)⟩ hP hD hK hS xn [4] [] [0, 1, 2, 3, 4] [] [0] rfl (by decide) rfl rfl (by decide) (by decide) rfl rfl (aNil hA hS) (aNil hA hS) 4 rfl rfl rfl hl.1 rfl (Nat.le_of_ble_eq_true rfl) dL_law_652 ⟨(Nat.le_of_ble_eq_true rfl), (Nat.le_of_ble_eq_true rfl)⟩ (fun u H locs hφ hP hD hK hS hk => ?_)
  have hP : va_P D vwCl [(h0, .inr (5, [v0, .ref h1, v1, .ref h2, v2, v3, v4, v5, v6, v7])), (h3, .inl (a0, 1, .inr (.inl (vp_updL f0 0 (-1))))), (h1, .inr (0, [v8, v9, .int 2, v10, v11, v12, v13])), (h2, .inr (1, [v14, v15, v16, v17, v18, v19, v20, v21, v22, v23, v24, v25, v26])), (h4, .inr (6, [.int 0, v28, v29, v30, v31, v32, v33, .int 2, v34, v35, v36, v37, v38, v39, v40, v41, v42, v43, v44, v45, v46, v47, v48, v49, v50, v51, v52]))] H := hP
  have hD : va_D A [(h0, .inr (5, [v0, .ref h1, v1, .ref h2, v2, v3, v4, v5, v6, v7])), (h3, .inl (a0, 1, .inr (.inl (vp_updL f0 0 (-1))))), (h1, .inr (0, [v8, v9, .int 2, v10, v11, v12, v13])), (h2, .inr (1, [v14, v15, v16, v17, v18, v19, v20, v21, v22, v23, v24, v25, v26])), (h4, .inr (6, [.int 0, v28, v29, v30, v31, v32, v33, .int 2, v34, v35, v36, v37, v38, v39, v40, v41, v42, v43, v44, v45, v46, v47, v48, v49, v50, v51, v52]))] := hD
  have hK : va_K D vwCl [(a0, .long)] s := hK
  refine W.widen (k := 1010) (n := 8898) (Nat.le_of_ble_eq_true rfl) (Nat.le_of_ble_eq_true rfl) ?_
  refine lv_iload hx hb dL_law_655 (lv_at hl 1 rfl) ?_
  refine lv_icmp_eq (tgt := 662) hx hb dL_law_657 (by decide) (fun _ => ?_) (fun c9 => absurd (by decide) c9)
  refine lv_iload hx hb dL_law_662 (lv_at hl 1 rfl) ?_
  refine lv_if_ne (tgt := 679) hx hb dL_law_664 (by decide) (fun c9 => absurd (by decide) c9) (fun _ => ?_)
  refine lv_aload_n hx hb dL_law_667 rfl (lv_at hl 3 rfl) ?_
  refine lv_iconst (v := 0) hx hb dL_law_668 (by decide) ?_
  refine aldL hx hb hK hP 1 0 rfl rfl 0 (by decide) (vin (by decide)) (v := (-1)) rfl dL_law_669 ?_
  refine lv_iload hx hb dL_law_670 (lv_at hl 0 rfl) ?_
  refine lv_i2l (v := (-1)) hx hb dL_law_672 (by decide) ?_
  refine W.lcmp hx hb dL_law_673 ?_
  refine ti (0) (by decide) ?_
  refine lv_if_eq (tgt := 679) hx hb dL_law_674 (by decide) (fun _ => ?_) (fun c9 => absurd (by decide) c9)
  refine lv_goto (tgt := 2199) hx hb dL_law_679 (by decide) ?_
  refine W.widen (k := 3000) (n := 30000) (Nat.le_of_ble_eq_true rfl) (Nat.le_of_ble_eq_true rfl) ?_
  exact kk _ _ _ hS (lv_sub hl [2, 6] rfl)
set_option maxHeartbeats 4000000 in
set_option maxRecDepth 100000 in
theorem law_8_3 {p : Program} {e : Env} {s : State} {m : MethodId} {below : List Frame} {meth : Method} {c : Code} (l : Launch) (hlt : l.stackTraces = false) {b : Nat} {xs : Nat → Int32} (hx : p.tables.exec = Jvm.exec) (hb : c.code = cL_law) (hml : c.maxLocals = 9) (hown : s.vm.findClass RL = some m.cls) (hg : ∀ w ∈ GW, w.before #[Value.ref b] s = true) (hXs : va_X b 6 xs s s.heap) (hbl : b < s.heap.size) (D : va_G) {A : Nat → Prop} (hA : ∀ q, s.heap.size ≤ q → A q) (hbA : ¬ A b) (hX : XX A s s.heap) (Q : State → Prop) (h0 : Nat) (h1 : Nat) (h2 : Nat) (h3 : Nat) (h4 : Nat) (h5 : Nat) (h6 : Nat) (v0 : Value) (v1 : Value) (v2 : Value) (v3 : Value) (v4 : Value) (v5 : Value) (v6 : Value) (v7 : Value) (v8 : Value) (v9 : Value) (v10 : Value) (v11 : Value) (v12 : Value) (v13 : Value) (v14 : Value) (v15 : Value) (v16 : Value) (v17 : Value) (v18 : Value) (v19 : Value) (v20 : Value) (v21 : Value) (v22 : Value) (v23 : Value) (v24 : Value) (f0 : Nat → Int32) (f1 : Nat → Int64) (v25 : Value) (v26 : Value) (v27 : Value) (v28 : Value) (v29 : Value) (v30 : Value) (v31 : Value) (v32 : Value) (v33 : Value) (v34 : Value) (v35 : Value) (v36 : Value) (v37 : Value) (v38 : Value) (v39 : Value) (v40 : Value) (v41 : Value) (v42 : Value) (v43 : Value) (v44 : Value) (v45 : Value) (v46 : Value) (v47 : Value) (v48 : Value) (v49 : Value) (f2 : Nat → Int64) (a0 : ClassId) (a1 : ClassId) (a2 : ClassId) (ef0_1 : f0 1 = (-1)) (ef2_102 : f2 102 = (-1)) (e1 : xs 1 = 0) (p2 : Int32) (e2 : xs 2 = p2) (n2 : ¬ p2 = 0) {H : Heap} {locs : List Loc} {ls : Array Slot} (hP : va_P D vwCl [(h0, .inr (5, [v0, .ref h1, v1, .ref h2, v2, v3, v4, v5, v6, v7])), (h1, .inr (0, [v8, v9, .int 2, v10, v11, v12, v13])), (h2, .inr (1, [.ref h1, v14, v15, .ref h3, v16, v17, v18, v19, v20, v21, v22, v23, v24])), (h3, .inl (a0, 48, .inl f0)), (h4, .inl (a1, 1, .inr (.inl f1))), (h5, .inr (6, [v25, .ref h6, v26, v27, v28, v29, v30, .int 2, v31, v32, v33, v34, v35, v36, v37, v38, v39, v40, v41, v42, v43, v44, v45, v46, v47, v48, v49])), (h6, .inl (a2, 609, .inr (.inl f2)))] H) (hD : va_D A [(h0, .inr (5, [v0, .ref h1, v1, .ref h2, v2, v3, v4, v5, v6, v7])), (h1, .inr (0, [v8, v9, .int 2, v10, v11, v12, v13])), (h2, .inr (1, [.ref h1, v14, v15, .ref h3, v16, v17, v18, v19, v20, v21, v22, v23, v24])), (h3, .inl (a0, 48, .inl f0)), (h4, .inl (a1, 1, .inr (.inl f1))), (h5, .inr (6, [v25, .ref h6, v26, v27, v28, v29, v30, .int 2, v31, v32, v33, v34, v35, v36, v37, v38, v39, v40, v41, v42, v43, v44, v45, v46, v47, v48, v49])), (h6, .inl (a2, 609, .inr (.inl f2)))]) (hK : va_K D vwCl [(a0, .int), (a1, .long), (a2, .long)] s) (hS : va_S A s.heap H locs) (hl : lv_has ls 9 [(4, .int 0), (3, .ref h4), (2, .ref h5), (1, .ref h0), (0, .ref b)]) (kk : ∀ (H : Heap) (locs : List Loc) (ls : Array Slot), va_S A s.heap H locs → lv_has ls 9 [(4, .int 0), (0, .ref b)] → W p l e room_1 s m #[Value.ref b] below meth c H locs 3000 30000 Q (F0 m 2199 ls [])) : W p l e room_1 s m #[Value.ref b] below meth c H locs 1010 8898 Q (F0 m 598 ls []) := by
  have d0 : ¬ (p2 = 0) := n2
  refine lv_aload_n hx hb dL_law_598 rfl (lv_at hl 3 rfl) ?_
  refine lv_aload_n hx hb dL_law_599 rfl (lv_at hl 4 rfl) ?_
  refine lv_iload hx hb dL_law_600 (lv_at hl 0 rfl) ?_
  refine lv_iconst (v := 1) hx hb dL_law_602 (by decide) ?_
  refine lv_iadd hx hb dL_law_603 ?_
  refine ti (1) (by decide) ?_
  refine va_sld hx hb hXs hbl hbA hS (vin (by decide)) dL_law_604 ?_
  refine ti 0 e1 ?_
  refine lv_aload_n hx hb dL_law_605 rfl (lv_at hl 4 rfl) ?_
  refine lv_iload hx hb dL_law_606 (lv_at hl 0 rfl) ?_
  refine lv_iconst (v := 2) hx hb dL_law_608 (by decide) ?_
  refine lv_iadd hx hb dL_law_609 ?_
  refine ti (2) (by decide) ?_
  refine va_sld hx hb hXs hbl hbA hS (vin (by decide)) dL_law_610 ?_
  refine ti p2 e2 ?_
  refine lv_if_eq (tgt := 618) hx hb dL_law_611 (by decide) (fun c9 => absurd c9 d0) (fun _ => ?_)
  refine lv_iconst (v := 1) hx hb dL_law_614 (by decide) ?_
  refine lv_goto (tgt := 619) hx hb dL_law_615 (by decide) ?_
  refine lv_aload_n hx hb dL_law_619 rfl (lv_at hl 1 rfl) ?_
  refine cHi (n := 4) (As := [.ref h0, .int 0, .int 1, .ref h4]) (rest := []) (wr := [(h5, .inr (6, [v25, .ref h6, v26, v27, v28, v29, v30, .int 2, v31, v32, v33, v34, v35, v36, v37, v38, v39, v40, v41, v42, v43, v44, v45, v46, v47, v48, v49])), (h6, .inl (a2, 609, .inr (.inl f2)))]) (tr := [(a2, .long)]) hx hb hml hown hg okN (cL_neighbour_639 l D h0 h4 h1 h2 h3 v0 v1 v2 v3 v4 v5 v6 v7 f1 v8 v9 v10 v11 v12 v13 v14 v15 v16 v17 v18 v19 v20 v21 v22 v23 v24 f0 a1 a0 ef0_1) (mwHS k874 k875 k83 k876) ⟨by decide, by decide, by decide +kernel⟩ ⟨rfl, rfl, (Nat.le_of_ble_eq_true rfl), (Nat.le_of_ble_eq_true rfl)⟩ hP hD hK hS xn [0, 4, 1, 2, 3] [0, 4, 1, 2, 3] [5, 6] [1, 0] [2] rfl (by decide) rfl rfl (by decide) (by decide) rfl rfl (va_free hD hS hA [0, 4, 1, 2, 3] rfl) (va_free hD hS hA [0, 4, 1, 2, 3] rfl) rfl hl.1 rfl (Nat.le_of_ble_eq_true rfl) dL_law_620 ⟨(Nat.le_of_ble_eq_true rfl), (Nat.le_of_ble_eq_true rfl)⟩ (fun u H locs hφ hP hD hK hS hk => ?_)
  have hP : va_P D vwCl [(h5, .inr (6, [v25, .ref h6, v26, v27, v28, v29, v30, .int 2, v31, v32, v33, v34, v35, v36, v37, v38, v39, v40, v41, v42, v43, v44, v45, v46, v47, v48, v49])), (h6, .inl (a2, 609, .inr (.inl f2))), (h0, .inr (5, [v0, .ref h1, v1, .ref h2, v2, v3, v4, v5, v6, v7])), (h4, .inl (a1, 1, .inr (.inl (vp_updL f1 0 1)))), (h1, .inr (0, [v8, v9, .int 2, v10, v11, v12, v13])), (h2, .inr (1, [.ref h1, v14, v15, .ref h3, v16, v17, v18, v19, v20, v21, v22, v23, v24])), (h3, .inl (a0, 48, .inl f0))] H := hP
  have hD : va_D A [(h5, .inr (6, [v25, .ref h6, v26, v27, v28, v29, v30, .int 2, v31, v32, v33, v34, v35, v36, v37, v38, v39, v40, v41, v42, v43, v44, v45, v46, v47, v48, v49])), (h6, .inl (a2, 609, .inr (.inl f2))), (h0, .inr (5, [v0, .ref h1, v1, .ref h2, v2, v3, v4, v5, v6, v7])), (h4, .inl (a1, 1, .inr (.inl (vp_updL f1 0 1)))), (h1, .inr (0, [v8, v9, .int 2, v10, v11, v12, v13])), (h2, .inr (1, [.ref h1, v14, v15, .ref h3, v16, v17, v18, v19, v20, v21, v22, v23, v24])), (h3, .inl (a0, 48, .inl f0))] := hD
  have hK : va_K D vwCl [(a2, .long), (a1, .long), (a0, .int)] s := hK
  refine W.widen (k := 1010) (n := 8898) (Nat.le_of_ble_eq_true rfl) (Nat.le_of_ble_eq_true rfl) ?_
  refine lv_istore (lv' := [(5, .int 0), (4, .int 0), (3, .ref h4), (2, .ref h5), (1, .ref h0), (0, .ref b)]) hx hb dL_law_623 hl (by decide) rfl (fun ls hl => ?_)
  refine lv_aload_n hx hb dL_law_625 rfl (lv_at hl 3 rfl) ?_
  refine lv_aload_n hx hb dL_law_626 rfl (lv_at hl 5 rfl) ?_
  refine lv_iload hx hb dL_law_627 (lv_at hl 1 rfl) ?_
  refine lv_iconst (v := 1) hx hb dL_law_629 (by decide) ?_
  refine lv_iadd hx hb dL_law_630 ?_
  refine ti (1) (by decide) ?_
  refine va_sld hx hb hXs hbl hbA hS (vin (by decide)) dL_law_631 ?_
  refine ti 0 e1 ?_
  refine lv_aload_n hx hb dL_law_632 rfl (lv_at hl 5 rfl) ?_
  refine lv_iload hx hb dL_law_633 (lv_at hl 1 rfl) ?_
  refine lv_iconst (v := 2) hx hb dL_law_635 (by decide) ?_
  refine lv_iadd hx hb dL_law_636 ?_
  refine ti (2) (by decide) ?_
  refine va_sld hx hb hXs hbl hbA hS (vin (by decide)) dL_law_637 ?_
  refine ti p2 e2 ?_
  refine lv_if_eq (tgt := 645) hx hb dL_law_638 (by decide) (fun c9 => absurd c9 d0) (fun _ => ?_)
  refine lv_iconst (v := 1) hx hb dL_law_641 (by decide) ?_
  refine lv_goto (tgt := 646) hx hb dL_law_642 (by decide) ?_
  refine cVi (n := 2) (As := [.int 0, .int 1]) (rest := []) (wr := [(h0, .inr (5, [v0, .ref h1, v1, .ref h2, v2, v3, v4, v5, v6, v7])), (h4, .inl (a1, 1, .inr (.inl (vp_updL f1 0 1)))), (h1, .inr (0, [v8, v9, .int 2, v10, v11, v12, v13])), (h2, .inr (1, [.ref h1, v14, v15, .ref h3, v16, v17, v18, v19, v20, v21, v22, v23, v24])), (h3, .inl (a0, 48, .inl f0))]) (tr := [(a1, .long), (a0, .int)]) hx hb hml hown hg okN (cX6_neighbour_101 l D h5 h6 v25 v26 v27 v28 v29 v30 v31 v32 v33 v34 v35 v36 v37 v38 v39 v40 v41 v42 v43 v44 v45 v46 v47 v48 v49 f2 a2 ef2_102) (mwV k1453 k1454 k1455 k92 k1456) ⟨rfl, by decide, by decide, by decide +kernel⟩ ⟨rfl, rfl, (Nat.le_of_ble_eq_true rfl), (Nat.le_of_ble_eq_true rfl)⟩ hP hD hK hS xn [0, 1] [0, 1] [2, 3, 4, 5, 6] [0] [1, 2] rfl (by decide) rfl rfl (by decide) (by decide) rfl rfl (va_free hD hS hA [0, 1] rfl) (va_free hD hS hA [0, 1] rfl) 0 rfl rfl rfl hl.1 rfl (Nat.le_of_ble_eq_true rfl) dL_law_646 ⟨(Nat.le_of_ble_eq_true rfl), (Nat.le_of_ble_eq_true rfl)⟩ (fun u H locs hφ hP hD hK hS hk => ?_)
  have hP : va_P D vwCl [(h0, .inr (5, [v0, .ref h1, v1, .ref h2, v2, v3, v4, v5, v6, v7])), (h4, .inl (a1, 1, .inr (.inl (vp_updL f1 0 1)))), (h1, .inr (0, [v8, v9, .int 2, v10, v11, v12, v13])), (h2, .inr (1, [.ref h1, v14, v15, .ref h3, v16, v17, v18, v19, v20, v21, v22, v23, v24])), (h3, .inl (a0, 48, .inl f0)), (h5, .inr (6, [.int 0, .ref h6, v26, v27, v28, v29, v30, .int 2, v31, v32, v33, v34, v35, v36, v37, v38, v39, v40, v41, v42, v43, v44, v45, v46, v47, v48, v49])), (h6, .inl (a2, 609, .inr (.inl f2)))] H := hP
  have hD : va_D A [(h0, .inr (5, [v0, .ref h1, v1, .ref h2, v2, v3, v4, v5, v6, v7])), (h4, .inl (a1, 1, .inr (.inl (vp_updL f1 0 1)))), (h1, .inr (0, [v8, v9, .int 2, v10, v11, v12, v13])), (h2, .inr (1, [.ref h1, v14, v15, .ref h3, v16, v17, v18, v19, v20, v21, v22, v23, v24])), (h3, .inl (a0, 48, .inl f0)), (h5, .inr (6, [.int 0, .ref h6, v26, v27, v28, v29, v30, .int 2, v31, v32, v33, v34, v35, v36, v37, v38, v39, v40, v41, v42, v43, v44, v45, v46, v47, v48, v49])), (h6, .inl (a2, 609, .inr (.inl f2)))] := hD
  have hK : va_K D vwCl [(a1, .long), (a0, .int), (a2, .long)] s := hK
  refine W.widen (k := 1010) (n := 8898) (Nat.le_of_ble_eq_true rfl) (Nat.le_of_ble_eq_true rfl) ?_
  refine lv_istore (lv' := [(6, .int 1), (5, .int 0), (4, .int 0), (3, .ref h4), (2, .ref h5), (1, .ref h0), (0, .ref b)]) hx hb dL_law_649 hl (by decide) rfl (fun ls hl => ?_)
  refine lv_aload_n hx hb dL_law_651 rfl (lv_at hl 4 rfl) ?_
  refine cVi (n := 0) (As := []) (rest := []) (wr := [(h0, .inr (5, [v0, .ref h1, v1, .ref h2, v2, v3, v4, v5, v6, v7])), (h4, .inl (a1, 1, .inr (.inl (vp_updL f1 0 1)))), (h1, .inr (0, [v8, v9, .int 2, v10, v11, v12, v13])), (h2, .inr (1, [.ref h1, v14, v15, .ref h3, v16, v17, v18, v19, v20, v21, v22, v23, v24])), (h3, .inl (a0, 48, .inl f0)), (h5, .inr (6, [.int 0, .ref h6, v26, v27, v28, v29, v30, .int 2, v31, v32, v33, v34, v35, v36, v37, v38, v39, v40, v41, v42, v43, v44, v45, v46, v47, v48, v49])), (h6, .inl (a2, 609, .inr (.inl f2)))]) (tr := [(a1, .long), (a0, .int), (a2, .long)]) hx hb hml hown hg okN (cX6_thrown_1 l D h5 (.ref h6) v26 v27 v28 v29 v30 (.int 2) v31 v32 v33 v34 v35 v36 v37 v38 v39 v40 v41 v42 v43 v44 v45 v46 v47 v48 v49) (mwV k1301 k1302 k1303 k92 k1304) ⟨rfl, by decide, by decide, by decide +kernel⟩ ⟨rfl, rfl, (Nat.le_of_ble_eq_true rfl), (Nat.le_of_ble_eq_true rfl)⟩ hP hD hK hS xn [5] [] [0, 1, 2, 3, 4, 5, 6] [] [0, 1, 2] rfl (by decide) rfl rfl (by decide) (by decide) rfl rfl (aNil hA hS) (aNil hA hS) 5 rfl rfl rfl hl.1 rfl (Nat.le_of_ble_eq_true rfl) dL_law_652 ⟨(Nat.le_of_ble_eq_true rfl), (Nat.le_of_ble_eq_true rfl)⟩ (fun u H locs hφ hP hD hK hS hk => ?_)
  have hP : va_P D vwCl [(h0, .inr (5, [v0, .ref h1, v1, .ref h2, v2, v3, v4, v5, v6, v7])), (h4, .inl (a1, 1, .inr (.inl (vp_updL f1 0 1)))), (h1, .inr (0, [v8, v9, .int 2, v10, v11, v12, v13])), (h2, .inr (1, [.ref h1, v14, v15, .ref h3, v16, v17, v18, v19, v20, v21, v22, v23, v24])), (h3, .inl (a0, 48, .inl f0)), (h5, .inr (6, [.int 0, .ref h6, v26, v27, v28, v29, v30, .int 2, v31, v32, v33, v34, v35, v36, v37, v38, v39, v40, v41, v42, v43, v44, v45, v46, v47, v48, v49])), (h6, .inl (a2, 609, .inr (.inl f2)))] H := hP
  have hD : va_D A [(h0, .inr (5, [v0, .ref h1, v1, .ref h2, v2, v3, v4, v5, v6, v7])), (h4, .inl (a1, 1, .inr (.inl (vp_updL f1 0 1)))), (h1, .inr (0, [v8, v9, .int 2, v10, v11, v12, v13])), (h2, .inr (1, [.ref h1, v14, v15, .ref h3, v16, v17, v18, v19, v20, v21, v22, v23, v24])), (h3, .inl (a0, 48, .inl f0)), (h5, .inr (6, [.int 0, .ref h6, v26, v27, v28, v29, v30, .int 2, v31, v32, v33, v34, v35, v36, v37, v38, v39, v40, v41, v42, v43, v44, v45, v46, v47, v48, v49])), (h6, .inl (a2, 609, .inr (.inl f2)))] := hD
  have hK : va_K D vwCl [(a1, .long), (a0, .int), (a2, .long)] s := hK
  refine W.widen (k := 1010) (n := 8898) (Nat.le_of_ble_eq_true rfl) (Nat.le_of_ble_eq_true rfl) ?_
  refine lv_iload hx hb dL_law_655 (lv_at hl 1 rfl) ?_
  refine lv_icmp_eq (tgt := 662) hx hb dL_law_657 (by decide) (fun _ => ?_) (fun c9 => absurd (by decide) c9)
  refine lv_iload hx hb dL_law_662 (lv_at hl 1 rfl) ?_
  refine lv_if_ne (tgt := 679) hx hb dL_law_664 (by decide) (fun c9 => absurd (by decide) c9) (fun _ => ?_)
  refine lv_aload_n hx hb dL_law_667 rfl (lv_at hl 3 rfl) ?_
  refine lv_iconst (v := 0) hx hb dL_law_668 (by decide) ?_
  refine aldL hx hb hK hP 1 0 rfl rfl 0 (by decide) (vin (by decide)) (v := 1) rfl dL_law_669 ?_
  refine lv_iload hx hb dL_law_670 (lv_at hl 0 rfl) ?_
  refine lv_i2l (v := 1) hx hb dL_law_672 (by decide) ?_
  refine W.lcmp hx hb dL_law_673 ?_
  refine ti (0) (by decide) ?_
  refine lv_if_eq (tgt := 679) hx hb dL_law_674 (by decide) (fun _ => ?_) (fun c9 => absurd (by decide) c9)
  refine lv_goto (tgt := 2199) hx hb dL_law_679 (by decide) ?_
  refine W.widen (k := 3000) (n := 30000) (Nat.le_of_ble_eq_true rfl) (Nat.le_of_ble_eq_true rfl) ?_
  exact kk _ _ _ hS (lv_sub hl [2, 6] rfl)
set_option maxHeartbeats 4000000 in
set_option maxRecDepth 100000 in
theorem law_8_4 {p : Program} {e : Env} {s : State} {m : MethodId} {below : List Frame} {meth : Method} {c : Code} (l : Launch) (hlt : l.stackTraces = false) {b : Nat} {xs : Nat → Int32} (hx : p.tables.exec = Jvm.exec) (hb : c.code = cL_law) (hml : c.maxLocals = 9) (hown : s.vm.findClass RL = some m.cls) (hg : ∀ w ∈ GW, w.before #[Value.ref b] s = true) (hXs : va_X b 6 xs s s.heap) (hbl : b < s.heap.size) (D : va_G) {A : Nat → Prop} (hA : ∀ q, s.heap.size ≤ q → A q) (hbA : ¬ A b) (hX : XX A s s.heap) (Q : State → Prop) (h0 : Nat) (h1 : Nat) (h2 : Nat) (h3 : Nat) (h4 : Nat) (h5 : Nat) (h6 : Nat) (v0 : Value) (v1 : Value) (v2 : Value) (v3 : Value) (v4 : Value) (v5 : Value) (v6 : Value) (v7 : Value) (v8 : Value) (v9 : Value) (v10 : Value) (v11 : Value) (v12 : Value) (v13 : Value) (v14 : Value) (v15 : Value) (v16 : Value) (v17 : Value) (v18 : Value) (v19 : Value) (v20 : Value) (v21 : Value) (v22 : Value) (v23 : Value) (v24 : Value) (v25 : Value) (f0 : Nat → Int32) (f1 : Nat → Int64) (v26 : Value) (v27 : Value) (v28 : Value) (v29 : Value) (v30 : Value) (v31 : Value) (v32 : Value) (v33 : Value) (v34 : Value) (v35 : Value) (v36 : Value) (v37 : Value) (v38 : Value) (v39 : Value) (v40 : Value) (v41 : Value) (v42 : Value) (v43 : Value) (v44 : Value) (v45 : Value) (v46 : Value) (v47 : Value) (v48 : Value) (v49 : Value) (v50 : Value) (f2 : Nat → Int64) (a0 : ClassId) (a1 : ClassId) (a2 : ClassId) (ef0_0 : f0 0 = (-1)) (ef2_101 : f2 101 = (-1)) (e1 : xs 1 = 1) (e2 : xs 2 = 0) {H : Heap} {locs : List Loc} {ls : Array Slot} (hP : va_P D vwCl [(h0, .inr (5, [v0, .ref h1, v1, .ref h2, v2, v3, v4, v5, v6, v7])), (h1, .inr (0, [v8, v9, .int 2, v10, v11, v12, v13])), (h2, .inr (1, [v14, v15, v16, .ref h3, v17, v18, v19, v20, v21, v22, v23, v24, v25])), (h3, .inl (a0, 48, .inl f0)), (h4, .inl (a1, 1, .inr (.inl f1))), (h5, .inr (6, [v26, .ref h6, v27, v28, v29, v30, v31, .int 2, v32, v33, v34, v35, v36, v37, v38, v39, v40, v41, v42, v43, v44, v45, v46, v47, v48, v49, v50])), (h6, .inl (a2, 609, .inr (.inl f2)))] H) (hD : va_D A [(h0, .inr (5, [v0, .ref h1, v1, .ref h2, v2, v3, v4, v5, v6, v7])), (h1, .inr (0, [v8, v9, .int 2, v10, v11, v12, v13])), (h2, .inr (1, [v14, v15, v16, .ref h3, v17, v18, v19, v20, v21, v22, v23, v24, v25])), (h3, .inl (a0, 48, .inl f0)), (h4, .inl (a1, 1, .inr (.inl f1))), (h5, .inr (6, [v26, .ref h6, v27, v28, v29, v30, v31, .int 2, v32, v33, v34, v35, v36, v37, v38, v39, v40, v41, v42, v43, v44, v45, v46, v47, v48, v49, v50])), (h6, .inl (a2, 609, .inr (.inl f2)))]) (hK : va_K D vwCl [(a0, .int), (a1, .long), (a2, .long)] s) (hS : va_S A s.heap H locs) (hl : lv_has ls 9 [(4, .int 0), (3, .ref h4), (2, .ref h5), (1, .ref h0), (0, .ref b)]) (kk : ∀ (H : Heap) (locs : List Loc) (ls : Array Slot), va_S A s.heap H locs → lv_has ls 9 [(4, .int 0), (0, .ref b)] → W p l e room_1 s m #[Value.ref b] below meth c H locs 3000 30000 Q (F0 m 2199 ls [])) : W p l e room_1 s m #[Value.ref b] below meth c H locs 1010 8898 Q (F0 m 598 ls []) := by
  refine lv_aload_n hx hb dL_law_598 rfl (lv_at hl 3 rfl) ?_
  refine lv_aload_n hx hb dL_law_599 rfl (lv_at hl 4 rfl) ?_
  refine lv_iload hx hb dL_law_600 (lv_at hl 0 rfl) ?_
  refine lv_iconst (v := 1) hx hb dL_law_602 (by decide) ?_
  refine lv_iadd hx hb dL_law_603 ?_
  refine ti (1) (by decide) ?_
  refine va_sld hx hb hXs hbl hbA hS (vin (by decide)) dL_law_604 ?_
  refine ti 1 e1 ?_
  refine lv_aload_n hx hb dL_law_605 rfl (lv_at hl 4 rfl) ?_
  refine lv_iload hx hb dL_law_606 (lv_at hl 0 rfl) ?_
  refine lv_iconst (v := 2) hx hb dL_law_608 (by decide) ?_
  refine lv_iadd hx hb dL_law_609 ?_
  refine ti (2) (by decide) ?_
  refine va_sld hx hb hXs hbl hbA hS (vin (by decide)) dL_law_610 ?_
  refine ti 0 e2 ?_
  refine lv_if_eq (tgt := 618) hx hb dL_law_611 (by decide) (fun _ => ?_) (fun c9 => absurd (by decide) c9)
  refine lv_iconst (v := 0) hx hb dL_law_618 (by decide) ?_
  refine lv_aload_n hx hb dL_law_619 rfl (lv_at hl 1 rfl) ?_
  refine cHi (n := 4) (As := [.ref h0, .int 1, .int 0, .ref h4]) (rest := []) (wr := [(h5, .inr (6, [v26, .ref h6, v27, v28, v29, v30, v31, .int 2, v32, v33, v34, v35, v36, v37, v38, v39, v40, v41, v42, v43, v44, v45, v46, v47, v48, v49, v50])), (h6, .inl (a2, 609, .inr (.inl f2)))]) (tr := [(a2, .long)]) hx hb hml hown hg okN (cL_neighbour_640 l D h0 h4 h1 h2 h3 v0 v1 v2 v3 v4 v5 v6 v7 f1 v8 v9 v10 v11 v12 v13 v14 v15 v16 v17 v18 v19 v20 v21 v22 v23 v24 v25 f0 a1 a0 ef0_0) (mwHS k874 k875 k83 k876) ⟨by decide, by decide, by decide +kernel⟩ ⟨rfl, rfl, (Nat.le_of_ble_eq_true rfl), (Nat.le_of_ble_eq_true rfl)⟩ hP hD hK hS xn [0, 4, 1, 2, 3] [0, 4, 1, 2, 3] [5, 6] [1, 0] [2] rfl (by decide) rfl rfl (by decide) (by decide) rfl rfl (va_free hD hS hA [0, 4, 1, 2, 3] rfl) (va_free hD hS hA [0, 4, 1, 2, 3] rfl) rfl hl.1 rfl (Nat.le_of_ble_eq_true rfl) dL_law_620 ⟨(Nat.le_of_ble_eq_true rfl), (Nat.le_of_ble_eq_true rfl)⟩ (fun u H locs hφ hP hD hK hS hk => ?_)
  have hP : va_P D vwCl [(h5, .inr (6, [v26, .ref h6, v27, v28, v29, v30, v31, .int 2, v32, v33, v34, v35, v36, v37, v38, v39, v40, v41, v42, v43, v44, v45, v46, v47, v48, v49, v50])), (h6, .inl (a2, 609, .inr (.inl f2))), (h0, .inr (5, [v0, .ref h1, v1, .ref h2, v2, v3, v4, v5, v6, v7])), (h4, .inl (a1, 1, .inr (.inl (vp_updL f1 0 0)))), (h1, .inr (0, [v8, v9, .int 2, v10, v11, v12, v13])), (h2, .inr (1, [v14, v15, v16, .ref h3, v17, v18, v19, v20, v21, v22, v23, v24, v25])), (h3, .inl (a0, 48, .inl f0))] H := hP
  have hD : va_D A [(h5, .inr (6, [v26, .ref h6, v27, v28, v29, v30, v31, .int 2, v32, v33, v34, v35, v36, v37, v38, v39, v40, v41, v42, v43, v44, v45, v46, v47, v48, v49, v50])), (h6, .inl (a2, 609, .inr (.inl f2))), (h0, .inr (5, [v0, .ref h1, v1, .ref h2, v2, v3, v4, v5, v6, v7])), (h4, .inl (a1, 1, .inr (.inl (vp_updL f1 0 0)))), (h1, .inr (0, [v8, v9, .int 2, v10, v11, v12, v13])), (h2, .inr (1, [v14, v15, v16, .ref h3, v17, v18, v19, v20, v21, v22, v23, v24, v25])), (h3, .inl (a0, 48, .inl f0))] := hD
  have hK : va_K D vwCl [(a2, .long), (a1, .long), (a0, .int)] s := hK
  refine W.widen (k := 1010) (n := 8898) (Nat.le_of_ble_eq_true rfl) (Nat.le_of_ble_eq_true rfl) ?_
  refine lv_istore (lv' := [(5, .int 0), (4, .int 0), (3, .ref h4), (2, .ref h5), (1, .ref h0), (0, .ref b)]) hx hb dL_law_623 hl (by decide) rfl (fun ls hl => ?_)
  refine lv_aload_n hx hb dL_law_625 rfl (lv_at hl 3 rfl) ?_
  refine lv_aload_n hx hb dL_law_626 rfl (lv_at hl 5 rfl) ?_
  refine lv_iload hx hb dL_law_627 (lv_at hl 1 rfl) ?_
  refine lv_iconst (v := 1) hx hb dL_law_629 (by decide) ?_
  refine lv_iadd hx hb dL_law_630 ?_
  refine ti (1) (by decide) ?_
  refine va_sld hx hb hXs hbl hbA hS (vin (by decide)) dL_law_631 ?_
  refine ti 1 e1 ?_
  refine lv_aload_n hx hb dL_law_632 rfl (lv_at hl 5 rfl) ?_
  refine lv_iload hx hb dL_law_633 (lv_at hl 1 rfl) ?_
  refine lv_iconst (v := 2) hx hb dL_law_635 (by decide) ?_
  refine lv_iadd hx hb dL_law_636 ?_
  refine ti (2) (by decide) ?_
  refine va_sld hx hb hXs hbl hbA hS (vin (by decide)) dL_law_637 ?_
  refine ti 0 e2 ?_
  refine lv_if_eq (tgt := 645) hx hb dL_law_638 (by decide) (fun _ => ?_) (fun c9 => absurd (by decide) c9)
  refine lv_iconst (v := 0) hx hb dL_law_645 (by decide) ?_
  refine cVi (n := 2) (As := [.int 1, .int 0]) (rest := []) (wr := [(h0, .inr (5, [v0, .ref h1, v1, .ref h2, v2, v3, v4, v5, v6, v7])), (h4, .inl (a1, 1, .inr (.inl (vp_updL f1 0 0)))), (h1, .inr (0, [v8, v9, .int 2, v10, v11, v12, v13])), (h2, .inr (1, [v14, v15, v16, .ref h3, v17, v18, v19, v20, v21, v22, v23, v24, v25])), (h3, .inl (a0, 48, .inl f0))]) (tr := [(a1, .long), (a0, .int)]) hx hb hml hown hg okN (cX6_neighbour_102 l D h5 h6 v26 v27 v28 v29 v30 v31 v32 v33 v34 v35 v36 v37 v38 v39 v40 v41 v42 v43 v44 v45 v46 v47 v48 v49 v50 f2 a2 ef2_101) (mwV k1453 k1454 k1455 k92 k1456) ⟨rfl, by decide, by decide, by decide +kernel⟩ ⟨rfl, rfl, (Nat.le_of_ble_eq_true rfl), (Nat.le_of_ble_eq_true rfl)⟩ hP hD hK hS xn [0, 1] [0, 1] [2, 3, 4, 5, 6] [0] [1, 2] rfl (by decide) rfl rfl (by decide) (by decide) rfl rfl (va_free hD hS hA [0, 1] rfl) (va_free hD hS hA [0, 1] rfl) 0 rfl rfl rfl hl.1 rfl (Nat.le_of_ble_eq_true rfl) dL_law_646 ⟨(Nat.le_of_ble_eq_true rfl), (Nat.le_of_ble_eq_true rfl)⟩ (fun u H locs hφ hP hD hK hS hk => ?_)
  have hP : va_P D vwCl [(h0, .inr (5, [v0, .ref h1, v1, .ref h2, v2, v3, v4, v5, v6, v7])), (h4, .inl (a1, 1, .inr (.inl (vp_updL f1 0 0)))), (h1, .inr (0, [v8, v9, .int 2, v10, v11, v12, v13])), (h2, .inr (1, [v14, v15, v16, .ref h3, v17, v18, v19, v20, v21, v22, v23, v24, v25])), (h3, .inl (a0, 48, .inl f0)), (h5, .inr (6, [.int 0, .ref h6, v27, v28, v29, v30, v31, .int 2, v32, v33, v34, v35, v36, v37, v38, v39, v40, v41, v42, v43, v44, v45, v46, v47, v48, v49, v50])), (h6, .inl (a2, 609, .inr (.inl f2)))] H := hP
  have hD : va_D A [(h0, .inr (5, [v0, .ref h1, v1, .ref h2, v2, v3, v4, v5, v6, v7])), (h4, .inl (a1, 1, .inr (.inl (vp_updL f1 0 0)))), (h1, .inr (0, [v8, v9, .int 2, v10, v11, v12, v13])), (h2, .inr (1, [v14, v15, v16, .ref h3, v17, v18, v19, v20, v21, v22, v23, v24, v25])), (h3, .inl (a0, 48, .inl f0)), (h5, .inr (6, [.int 0, .ref h6, v27, v28, v29, v30, v31, .int 2, v32, v33, v34, v35, v36, v37, v38, v39, v40, v41, v42, v43, v44, v45, v46, v47, v48, v49, v50])), (h6, .inl (a2, 609, .inr (.inl f2)))] := hD
  have hK : va_K D vwCl [(a1, .long), (a0, .int), (a2, .long)] s := hK
  refine W.widen (k := 1010) (n := 8898) (Nat.le_of_ble_eq_true rfl) (Nat.le_of_ble_eq_true rfl) ?_
  refine lv_istore (lv' := [(6, .int 0), (5, .int 0), (4, .int 0), (3, .ref h4), (2, .ref h5), (1, .ref h0), (0, .ref b)]) hx hb dL_law_649 hl (by decide) rfl (fun ls hl => ?_)
  refine lv_aload_n hx hb dL_law_651 rfl (lv_at hl 4 rfl) ?_
  refine cVi (n := 0) (As := []) (rest := []) (wr := [(h0, .inr (5, [v0, .ref h1, v1, .ref h2, v2, v3, v4, v5, v6, v7])), (h4, .inl (a1, 1, .inr (.inl (vp_updL f1 0 0)))), (h1, .inr (0, [v8, v9, .int 2, v10, v11, v12, v13])), (h2, .inr (1, [v14, v15, v16, .ref h3, v17, v18, v19, v20, v21, v22, v23, v24, v25])), (h3, .inl (a0, 48, .inl f0)), (h5, .inr (6, [.int 0, .ref h6, v27, v28, v29, v30, v31, .int 2, v32, v33, v34, v35, v36, v37, v38, v39, v40, v41, v42, v43, v44, v45, v46, v47, v48, v49, v50])), (h6, .inl (a2, 609, .inr (.inl f2)))]) (tr := [(a1, .long), (a0, .int), (a2, .long)]) hx hb hml hown hg okN (cX6_thrown_1 l D h5 (.ref h6) v27 v28 v29 v30 v31 (.int 2) v32 v33 v34 v35 v36 v37 v38 v39 v40 v41 v42 v43 v44 v45 v46 v47 v48 v49 v50) (mwV k1301 k1302 k1303 k92 k1304) ⟨rfl, by decide, by decide, by decide +kernel⟩ ⟨rfl, rfl, (Nat.le_of_ble_eq_true rfl), (Nat.le_of_ble_eq_true rfl)⟩ hP hD hK hS xn [5] [] [0, 1, 2, 3, 4, 5, 6] [] [0, 1, 2] rfl (by decide) rfl rfl (by decide) (by decide) rfl rfl (aNil hA hS) (aNil hA hS) 5 rfl rfl rfl hl.1 rfl (Nat.le_of_ble_eq_true rfl) dL_law_652 ⟨(Nat.le_of_ble_eq_true rfl), (Nat.le_of_ble_eq_true rfl)⟩ (fun u H locs hφ hP hD hK hS hk => ?_)
  have hP : va_P D vwCl [(h0, .inr (5, [v0, .ref h1, v1, .ref h2, v2, v3, v4, v5, v6, v7])), (h4, .inl (a1, 1, .inr (.inl (vp_updL f1 0 0)))), (h1, .inr (0, [v8, v9, .int 2, v10, v11, v12, v13])), (h2, .inr (1, [v14, v15, v16, .ref h3, v17, v18, v19, v20, v21, v22, v23, v24, v25])), (h3, .inl (a0, 48, .inl f0)), (h5, .inr (6, [.int 0, .ref h6, v27, v28, v29, v30, v31, .int 2, v32, v33, v34, v35, v36, v37, v38, v39, v40, v41, v42, v43, v44, v45, v46, v47, v48, v49, v50])), (h6, .inl (a2, 609, .inr (.inl f2)))] H := hP
  have hD : va_D A [(h0, .inr (5, [v0, .ref h1, v1, .ref h2, v2, v3, v4, v5, v6, v7])), (h4, .inl (a1, 1, .inr (.inl (vp_updL f1 0 0)))), (h1, .inr (0, [v8, v9, .int 2, v10, v11, v12, v13])), (h2, .inr (1, [v14, v15, v16, .ref h3, v17, v18, v19, v20, v21, v22, v23, v24, v25])), (h3, .inl (a0, 48, .inl f0)), (h5, .inr (6, [.int 0, .ref h6, v27, v28, v29, v30, v31, .int 2, v32, v33, v34, v35, v36, v37, v38, v39, v40, v41, v42, v43, v44, v45, v46, v47, v48, v49, v50])), (h6, .inl (a2, 609, .inr (.inl f2)))] := hD
  have hK : va_K D vwCl [(a1, .long), (a0, .int), (a2, .long)] s := hK
  refine W.widen (k := 1010) (n := 8898) (Nat.le_of_ble_eq_true rfl) (Nat.le_of_ble_eq_true rfl) ?_
  refine lv_iload hx hb dL_law_655 (lv_at hl 1 rfl) ?_
  refine lv_icmp_eq (tgt := 662) hx hb dL_law_657 (by decide) (fun _ => ?_) (fun c9 => absurd (by decide) c9)
  refine lv_iload hx hb dL_law_662 (lv_at hl 1 rfl) ?_
  refine lv_if_ne (tgt := 679) hx hb dL_law_664 (by decide) (fun c9 => absurd (by decide) c9) (fun _ => ?_)
  refine lv_aload_n hx hb dL_law_667 rfl (lv_at hl 3 rfl) ?_
  refine lv_iconst (v := 0) hx hb dL_law_668 (by decide) ?_
  refine aldL hx hb hK hP 1 0 rfl rfl 0 (by decide) (vin (by decide)) (v := 0) rfl dL_law_669 ?_
  refine lv_iload hx hb dL_law_670 (lv_at hl 0 rfl) ?_
  refine lv_i2l (v := 0) hx hb dL_law_672 (by decide) ?_
  refine W.lcmp hx hb dL_law_673 ?_
  refine ti (0) (by decide) ?_
  refine lv_if_eq (tgt := 679) hx hb dL_law_674 (by decide) (fun _ => ?_) (fun c9 => absurd (by decide) c9)
  refine lv_goto (tgt := 2199) hx hb dL_law_679 (by decide) ?_
  refine W.widen (k := 3000) (n := 30000) (Nat.le_of_ble_eq_true rfl) (Nat.le_of_ble_eq_true rfl) ?_
  exact kk _ _ _ hS (lv_sub hl [2, 6] rfl)
set_option maxHeartbeats 4000000 in
set_option maxRecDepth 100000 in
theorem law_8_5 {p : Program} {e : Env} {s : State} {m : MethodId} {below : List Frame} {meth : Method} {c : Code} (l : Launch) (hlt : l.stackTraces = false) {b : Nat} {xs : Nat → Int32} (hx : p.tables.exec = Jvm.exec) (hb : c.code = cL_law) (hml : c.maxLocals = 9) (hown : s.vm.findClass RL = some m.cls) (hg : ∀ w ∈ GW, w.before #[Value.ref b] s = true) (hXs : va_X b 6 xs s s.heap) (hbl : b < s.heap.size) (D : va_G) {A : Nat → Prop} (hA : ∀ q, s.heap.size ≤ q → A q) (hbA : ¬ A b) (hX : XX A s s.heap) (Q : State → Prop) (h0 : Nat) (h1 : Nat) (h2 : Nat) (h3 : Nat) (h4 : Nat) (v0 : Value) (v1 : Value) (v2 : Value) (v3 : Value) (v4 : Value) (v5 : Value) (v6 : Value) (v7 : Value) (v8 : Value) (v9 : Value) (v10 : Value) (v11 : Value) (v12 : Value) (v13 : Value) (v14 : Value) (v15 : Value) (v16 : Value) (v17 : Value) (v18 : Value) (v19 : Value) (v20 : Value) (v21 : Value) (v22 : Value) (v23 : Value) (v24 : Value) (v25 : Value) (f0 : Nat → Int64) (v26 : Value) (v27 : Value) (v28 : Value) (v29 : Value) (v30 : Value) (v31 : Value) (v32 : Value) (v33 : Value) (v34 : Value) (v35 : Value) (v36 : Value) (v37 : Value) (v38 : Value) (v39 : Value) (v40 : Value) (v41 : Value) (v42 : Value) (v43 : Value) (v44 : Value) (v45 : Value) (v46 : Value) (v47 : Value) (v48 : Value) (v49 : Value) (v50 : Value) (v51 : Value) (a0 : ClassId)  (e1 : xs 1 = 1) (p2 : Int32) (e2 : xs 2 = p2) (n2 : ¬ p2 = 0) {H : Heap} {locs : List Loc} {ls : Array Slot} (hP : va_P D vwCl [(h0, .inr (5, [v0, .ref h1, v1, .ref h2, v2, v3, v4, v5, v6, v7])), (h1, .inr (0, [v8, v9, .int 2, v10, v11, v12, v13])), (h2, .inr (1, [.ref h1, v14, v15, v16, v17, v18, v19, v20, v21, v22, v23, v24, v25])), (h3, .inl (a0, 1, .inr (.inl f0))), (h4, .inr (6, [v26, v27, v28, v29, v30, v31, v32, .int 2, v33, v34, v35, v36, v37, v38, v39, v40, v41, v42, v43, v44, v45, v46, v47, v48, v49, v50, v51]))] H) (hD : va_D A [(h0, .inr (5, [v0, .ref h1, v1, .ref h2, v2, v3, v4, v5, v6, v7])), (h1, .inr (0, [v8, v9, .int 2, v10, v11, v12, v13])), (h2, .inr (1, [.ref h1, v14, v15, v16, v17, v18, v19, v20, v21, v22, v23, v24, v25])), (h3, .inl (a0, 1, .inr (.inl f0))), (h4, .inr (6, [v26, v27, v28, v29, v30, v31, v32, .int 2, v33, v34, v35, v36, v37, v38, v39, v40, v41, v42, v43, v44, v45, v46, v47, v48, v49, v50, v51]))]) (hK : va_K D vwCl [(a0, .long)] s) (hS : va_S A s.heap H locs) (hl : lv_has ls 9 [(4, .int 0), (3, .ref h3), (2, .ref h4), (1, .ref h0), (0, .ref b)]) (kk : ∀ (H : Heap) (locs : List Loc) (ls : Array Slot), va_S A s.heap H locs → lv_has ls 9 [(4, .int 0), (0, .ref b)] → W p l e room_1 s m #[Value.ref b] below meth c H locs 3000 30000 Q (F0 m 2199 ls [])) : W p l e room_1 s m #[Value.ref b] below meth c H locs 1010 8898 Q (F0 m 598 ls []) := by
  have d0 : ¬ (p2 = 0) := n2
  refine lv_aload_n hx hb dL_law_598 rfl (lv_at hl 3 rfl) ?_
  refine lv_aload_n hx hb dL_law_599 rfl (lv_at hl 4 rfl) ?_
  refine lv_iload hx hb dL_law_600 (lv_at hl 0 rfl) ?_
  refine lv_iconst (v := 1) hx hb dL_law_602 (by decide) ?_
  refine lv_iadd hx hb dL_law_603 ?_
  refine ti (1) (by decide) ?_
  refine va_sld hx hb hXs hbl hbA hS (vin (by decide)) dL_law_604 ?_
  refine ti 1 e1 ?_
  refine lv_aload_n hx hb dL_law_605 rfl (lv_at hl 4 rfl) ?_
  refine lv_iload hx hb dL_law_606 (lv_at hl 0 rfl) ?_
  refine lv_iconst (v := 2) hx hb dL_law_608 (by decide) ?_
  refine lv_iadd hx hb dL_law_609 ?_
  refine ti (2) (by decide) ?_
  refine va_sld hx hb hXs hbl hbA hS (vin (by decide)) dL_law_610 ?_
  refine ti p2 e2 ?_
  refine lv_if_eq (tgt := 618) hx hb dL_law_611 (by decide) (fun c9 => absurd c9 d0) (fun _ => ?_)
  refine lv_iconst (v := 1) hx hb dL_law_614 (by decide) ?_
  refine lv_goto (tgt := 619) hx hb dL_law_615 (by decide) ?_
  refine lv_aload_n hx hb dL_law_619 rfl (lv_at hl 1 rfl) ?_
  refine cHi (n := 4) (As := [.ref h0, .int 1, .int 1, .ref h3]) (rest := []) (wr := [(h4, .inr (6, [v26, v27, v28, v29, v30, v31, v32, .int 2, v33, v34, v35, v36, v37, v38, v39, v40, v41, v42, v43, v44, v45, v46, v47, v48, v49, v50, v51]))]) (tr := []) hx hb hml hown hg okN (cL_neighbour_641 l D h0 h3 h1 h2 v0 v1 v2 v3 v4 v5 v6 v7 f0 v8 v9 v10 v11 v12 v13 v14 v15 v16 v17 v18 v19 v20 v21 v22 v23 v24 v25 a0) (mwHS k874 k875 k83 k876) ⟨by decide, by decide, by decide +kernel⟩ ⟨rfl, rfl, (Nat.le_of_ble_eq_true rfl), (Nat.le_of_ble_eq_true rfl)⟩ hP hD hK hS xn [0, 3, 1, 2] [0, 3, 1, 2] [4] [0] [] rfl (by decide) rfl rfl (by decide) (by decide) rfl rfl (va_free hD hS hA [0, 3, 1, 2] rfl) (va_free hD hS hA [0, 3, 1, 2] rfl) rfl hl.1 rfl (Nat.le_of_ble_eq_true rfl) dL_law_620 ⟨(Nat.le_of_ble_eq_true rfl), (Nat.le_of_ble_eq_true rfl)⟩ (fun u H locs hφ hP hD hK hS hk => ?_)
  have hP : va_P D vwCl [(h4, .inr (6, [v26, v27, v28, v29, v30, v31, v32, .int 2, v33, v34, v35, v36, v37, v38, v39, v40, v41, v42, v43, v44, v45, v46, v47, v48, v49, v50, v51])), (h0, .inr (5, [v0, .ref h1, v1, .ref h2, v2, v3, v4, v5, v6, v7])), (h3, .inl (a0, 1, .inr (.inl (vp_updL f0 0 (-1))))), (h1, .inr (0, [v8, v9, .int 2, v10, v11, v12, v13])), (h2, .inr (1, [.ref h1, v14, v15, v16, v17, v18, v19, v20, v21, v22, v23, v24, v25]))] H := hP
  have hD : va_D A [(h4, .inr (6, [v26, v27, v28, v29, v30, v31, v32, .int 2, v33, v34, v35, v36, v37, v38, v39, v40, v41, v42, v43, v44, v45, v46, v47, v48, v49, v50, v51])), (h0, .inr (5, [v0, .ref h1, v1, .ref h2, v2, v3, v4, v5, v6, v7])), (h3, .inl (a0, 1, .inr (.inl (vp_updL f0 0 (-1))))), (h1, .inr (0, [v8, v9, .int 2, v10, v11, v12, v13])), (h2, .inr (1, [.ref h1, v14, v15, v16, v17, v18, v19, v20, v21, v22, v23, v24, v25]))] := hD
  have hK : va_K D vwCl [(a0, .long)] s := hK
  refine W.widen (k := 1010) (n := 8898) (Nat.le_of_ble_eq_true rfl) (Nat.le_of_ble_eq_true rfl) ?_
  refine lv_istore (lv' := [(5, .int 0), (4, .int 0), (3, .ref h3), (2, .ref h4), (1, .ref h0), (0, .ref b)]) hx hb dL_law_623 hl (by decide) rfl (fun ls hl => ?_)
  refine lv_aload_n hx hb dL_law_625 rfl (lv_at hl 3 rfl) ?_
  refine lv_aload_n hx hb dL_law_626 rfl (lv_at hl 5 rfl) ?_
  refine lv_iload hx hb dL_law_627 (lv_at hl 1 rfl) ?_
  refine lv_iconst (v := 1) hx hb dL_law_629 (by decide) ?_
  refine lv_iadd hx hb dL_law_630 ?_
  refine ti (1) (by decide) ?_
  refine va_sld hx hb hXs hbl hbA hS (vin (by decide)) dL_law_631 ?_
  refine ti 1 e1 ?_
  refine lv_aload_n hx hb dL_law_632 rfl (lv_at hl 5 rfl) ?_
  refine lv_iload hx hb dL_law_633 (lv_at hl 1 rfl) ?_
  refine lv_iconst (v := 2) hx hb dL_law_635 (by decide) ?_
  refine lv_iadd hx hb dL_law_636 ?_
  refine ti (2) (by decide) ?_
  refine va_sld hx hb hXs hbl hbA hS (vin (by decide)) dL_law_637 ?_
  refine ti p2 e2 ?_
  refine lv_if_eq (tgt := 645) hx hb dL_law_638 (by decide) (fun c9 => absurd c9 d0) (fun _ => ?_)
  refine lv_iconst (v := 1) hx hb dL_law_641 (by decide) ?_
  refine lv_goto (tgt := 646) hx hb dL_law_642 (by decide) ?_
  refine cVi (n := 2) (As := [.int 1, .int 1]) (rest := []) (wr := [(h0, .inr (5, [v0, .ref h1, v1, .ref h2, v2, v3, v4, v5, v6, v7])), (h3, .inl (a0, 1, .inr (.inl (vp_updL f0 0 (-1))))), (h1, .inr (0, [v8, v9, .int 2, v10, v11, v12, v13])), (h2, .inr (1, [.ref h1, v14, v15, v16, v17, v18, v19, v20, v21, v22, v23, v24, v25]))]) (tr := [(a0, .long)]) hx hb hml hown hg okN (cX6_neighbour_104 l D h4 v26 v27 v28 v29 v30 v31 v32 v33 v34 v35 v36 v37 v38 v39 v40 v41 v42 v43 v44 v45 v46 v47 v48 v49 v50 v51) (mwV k1453 k1454 k1455 k92 k1456) ⟨rfl, by decide, by decide, by decide +kernel⟩ ⟨rfl, rfl, (Nat.le_of_ble_eq_true rfl), (Nat.le_of_ble_eq_true rfl)⟩ hP hD hK hS xn [0] [0] [1, 2, 3, 4] [] [0] rfl (by decide) rfl rfl (by decide) (by decide) rfl rfl (va_free hD hS hA [0] rfl) (va_free hD hS hA [0] rfl) 0 rfl rfl rfl hl.1 rfl (Nat.le_of_ble_eq_true rfl) dL_law_646 ⟨(Nat.le_of_ble_eq_true rfl), (Nat.le_of_ble_eq_true rfl)⟩ (fun u H locs hφ hP hD hK hS hk => ?_)
  have hP : va_P D vwCl [(h0, .inr (5, [v0, .ref h1, v1, .ref h2, v2, v3, v4, v5, v6, v7])), (h3, .inl (a0, 1, .inr (.inl (vp_updL f0 0 (-1))))), (h1, .inr (0, [v8, v9, .int 2, v10, v11, v12, v13])), (h2, .inr (1, [.ref h1, v14, v15, v16, v17, v18, v19, v20, v21, v22, v23, v24, v25])), (h4, .inr (6, [.int 0, v27, v28, v29, v30, v31, v32, .int 2, v33, v34, v35, v36, v37, v38, v39, v40, v41, v42, v43, v44, v45, v46, v47, v48, v49, v50, v51]))] H := hP
  have hD : va_D A [(h0, .inr (5, [v0, .ref h1, v1, .ref h2, v2, v3, v4, v5, v6, v7])), (h3, .inl (a0, 1, .inr (.inl (vp_updL f0 0 (-1))))), (h1, .inr (0, [v8, v9, .int 2, v10, v11, v12, v13])), (h2, .inr (1, [.ref h1, v14, v15, v16, v17, v18, v19, v20, v21, v22, v23, v24, v25])), (h4, .inr (6, [.int 0, v27, v28, v29, v30, v31, v32, .int 2, v33, v34, v35, v36, v37, v38, v39, v40, v41, v42, v43, v44, v45, v46, v47, v48, v49, v50, v51]))] := hD
  have hK : va_K D vwCl [(a0, .long)] s := hK
  refine W.widen (k := 1010) (n := 8898) (Nat.le_of_ble_eq_true rfl) (Nat.le_of_ble_eq_true rfl) ?_
  refine lv_istore (lv' := [(6, .int (-1)), (5, .int 0), (4, .int 0), (3, .ref h3), (2, .ref h4), (1, .ref h0), (0, .ref b)]) hx hb dL_law_649 hl (by decide) rfl (fun ls hl => ?_)
  refine lv_aload_n hx hb dL_law_651 rfl (lv_at hl 4 rfl) ?_
  refine cVi (n := 0) (As := []) (rest := []) (wr := [(h0, .inr (5, [v0, .ref h1, v1, .ref h2, v2, v3, v4, v5, v6, v7])), (h3, .inl (a0, 1, .inr (.inl (vp_updL f0 0 (-1))))), (h1, .inr (0, [v8, v9, .int 2, v10, v11, v12, v13])), (h2, .inr (1, [.ref h1, v14, v15, v16, v17, v18, v19, v20, v21, v22, v23, v24, v25])), (h4, .inr (6, [.int 0, v27, v28, v29, v30, v31, v32, .int 2, v33, v34, v35, v36, v37, v38, v39, v40, v41, v42, v43, v44, v45, v46, v47, v48, v49, v50, v51]))]) (tr := [(a0, .long)]) hx hb hml hown hg okN (cX6_thrown_1 l D h4 v27 v28 v29 v30 v31 v32 (.int 2) v33 v34 v35 v36 v37 v38 v39 v40 v41 v42 v43 v44 v45 v46 v47 v48 v49 v50 v51) (mwV k1301 k1302 k1303 k92 k1304) ⟨rfl, by decide, by decide, by decide +kernel⟩ ⟨rfl, rfl, (Nat.le_of_ble_eq_true rfl), (Nat.le_of_ble_eq_true rfl)⟩ hP hD hK hS xn [4] [] [0, 1, 2, 3, 4] [] [0] rfl (by decide) rfl rfl (by decide) (by decide) rfl rfl (aNil hA hS) (aNil hA hS) 4 rfl rfl rfl hl.1 rfl (Nat.le_of_ble_eq_true rfl) dL_law_652 ⟨(Nat.le_of_ble_eq_true rfl), (Nat.le_of_ble_eq_true rfl)⟩ (fun u H locs hφ hP hD hK hS hk => ?_)
  have hP : va_P D vwCl [(h0, .inr (5, [v0, .ref h1, v1, .ref h2, v2, v3, v4, v5, v6, v7])), (h3, .inl (a0, 1, .inr (.inl (vp_updL f0 0 (-1))))), (h1, .inr (0, [v8, v9, .int 2, v10, v11, v12, v13])), (h2, .inr (1, [.ref h1, v14, v15, v16, v17, v18, v19, v20, v21, v22, v23, v24, v25])), (h4, .inr (6, [.int 0, v27, v28, v29, v30, v31, v32, .int 2, v33, v34, v35, v36, v37, v38, v39, v40, v41, v42, v43, v44, v45, v46, v47, v48, v49, v50, v51]))] H := hP
  have hD : va_D A [(h0, .inr (5, [v0, .ref h1, v1, .ref h2, v2, v3, v4, v5, v6, v7])), (h3, .inl (a0, 1, .inr (.inl (vp_updL f0 0 (-1))))), (h1, .inr (0, [v8, v9, .int 2, v10, v11, v12, v13])), (h2, .inr (1, [.ref h1, v14, v15, v16, v17, v18, v19, v20, v21, v22, v23, v24, v25])), (h4, .inr (6, [.int 0, v27, v28, v29, v30, v31, v32, .int 2, v33, v34, v35, v36, v37, v38, v39, v40, v41, v42, v43, v44, v45, v46, v47, v48, v49, v50, v51]))] := hD
  have hK : va_K D vwCl [(a0, .long)] s := hK
  refine W.widen (k := 1010) (n := 8898) (Nat.le_of_ble_eq_true rfl) (Nat.le_of_ble_eq_true rfl) ?_
  refine lv_iload hx hb dL_law_655 (lv_at hl 1 rfl) ?_
  refine lv_icmp_eq (tgt := 662) hx hb dL_law_657 (by decide) (fun _ => ?_) (fun c9 => absurd (by decide) c9)
  refine lv_iload hx hb dL_law_662 (lv_at hl 1 rfl) ?_
  refine lv_if_ne (tgt := 679) hx hb dL_law_664 (by decide) (fun c9 => absurd (by decide) c9) (fun _ => ?_)
  refine lv_aload_n hx hb dL_law_667 rfl (lv_at hl 3 rfl) ?_
  refine lv_iconst (v := 0) hx hb dL_law_668 (by decide) ?_
  refine aldL hx hb hK hP 1 0 rfl rfl 0 (by decide) (vin (by decide)) (v := (-1)) rfl dL_law_669 ?_
  refine lv_iload hx hb dL_law_670 (lv_at hl 0 rfl) ?_
  refine lv_i2l (v := (-1)) hx hb dL_law_672 (by decide) ?_
  refine W.lcmp hx hb dL_law_673 ?_
  refine ti (0) (by decide) ?_
  refine lv_if_eq (tgt := 679) hx hb dL_law_674 (by decide) (fun _ => ?_) (fun c9 => absurd (by decide) c9)
  refine lv_goto (tgt := 2199) hx hb dL_law_679 (by decide) ?_
  refine W.widen (k := 3000) (n := 30000) (Nat.le_of_ble_eq_true rfl) (Nat.le_of_ble_eq_true rfl) ?_
  exact kk _ _ _ hS (lv_sub hl [2, 6] rfl)
