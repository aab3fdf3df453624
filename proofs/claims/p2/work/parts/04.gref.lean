/-! the reference over any state: reads at an unknown index -/
theorem k52 : Cond.selects RX6 yX6_steps yX6_steps ∈ GW := gm 52 (by decide +kernel) (by decide +kernel)
theorem k92 : Cond.initialized RX6 ∈ GW := gm 92 (by decide +kernel) (by decide +kernel)
theorem k1218 : Cond.constantLong RX6 197 (-1) ∈ GW := gm 1218 (by decide +kernel) (by decide +kernel)
theorem k1220 : Cond.fieldLink RX6 7 "LiftingSignalModel" "w" "[J" ∈ GW := gm 1220 (by decide +kernel) (by decide +kernel)
theorem k1226 : Cond.fieldLink RX6 185 "LiftingSignalModel" "samples" "I" ∈ GW := gm 1226 (by decide +kernel) (by decide +kernel)
theorem k1412 : Cond.methodLink RX6 199 yX6_steps ∈ GW := gm 1412 (by decide +kernel) (by decide +kernel)
theorem k1414 : Cond.instanceMethod yX6_steps ∈ GW := gm 1414 (by decide +kernel) (by decide +kernel)
theorem k1415 : Cond.code yX6_steps cX6_steps 1 (some .int) ∈ GW := gm 1415 (by decide +kernel) (by decide +kernel)
theorem dX6_in_0 : decode cX6_in 0 = .ok (.lload_n 0, 1) := by decide +kernel
theorem dX6_in_1 : decode cX6_in 1 = .ok (.lload_n 2, 1) := by decide +kernel
theorem dX6_in_2 : decode cX6_in 2 = .ok (.lcmp, 1) := by decide +kernel
theorem dX6_in_3 : decode cX6_in 3 = .ok (.ifCond .lt 14, 3) := by decide +kernel
theorem dX6_in_6 : decode cX6_in 6 = .ok (.lload_n 0, 1) := by decide +kernel
theorem dX6_in_7 : decode cX6_in 7 = .ok (.lload 4, 2) := by decide +kernel
theorem dX6_in_9 : decode cX6_in 9 = .ok (.lcmp, 1) := by decide +kernel
theorem dX6_in_10 : decode cX6_in 10 = .ok (.ifCond .gt 7, 3) := by decide +kernel
theorem dX6_in_13 : decode cX6_in 13 = .ok (.iconst 1, 1) := by decide +kernel
theorem dX6_in_14 : decode cX6_in 14 = .ok (.goto 4, 3) := by decide +kernel
theorem dX6_in_17 : decode cX6_in 17 = .ok (.iconst 0, 1) := by decide +kernel
theorem dX6_in_18 : decode cX6_in 18 = .ok (.ireturn, 1) := by decide +kernel
theorem dX6_isPresent_0 : decode cX6_isPresent 0 = .ok (.aload_n 0, 1) := by decide +kernel
theorem dX6_isPresent_1 : decode cX6_isPresent 1 = .ok (.getfield 7, 3) := by decide +kernel
theorem dX6_isPresent_4 : decode cX6_isPresent 4 = .ok (.bipush 101, 2) := by decide +kernel
theorem dX6_isPresent_6 : decode cX6_isPresent 6 = .ok (.iload_n 1, 1) := by decide +kernel
theorem dX6_isPresent_7 : decode cX6_isPresent 7 = .ok (.iadd, 1) := by decide +kernel
theorem dX6_isPresent_8 : decode cX6_isPresent 8 = .ok (.laload, 1) := by decide +kernel
theorem dX6_isPresent_9 : decode cX6_isPresent 9 = .ok (.ldc2_w 197, 3) := by decide +kernel
theorem dX6_isPresent_12 : decode cX6_isPresent 12 = .ok (.lcmp, 1) := by decide +kernel
theorem dX6_isPresent_13 : decode cX6_isPresent 13 = .ok (.ifCond .ne 7, 3) := by decide +kernel
theorem dX6_isPresent_16 : decode cX6_isPresent 16 = .ok (.iconst 1, 1) := by decide +kernel
theorem dX6_isPresent_17 : decode cX6_isPresent 17 = .ok (.goto 4, 3) := by decide +kernel
theorem dX6_isPresent_20 : decode cX6_isPresent 20 = .ok (.iconst 0, 1) := by decide +kernel
theorem dX6_isPresent_21 : decode cX6_isPresent 21 = .ok (.ireturn, 1) := by decide +kernel
theorem dX6_of_0 : decode cX6_of 0 = .ok (.aload_n 0, 1) := by decide +kernel
theorem dX6_of_1 : decode cX6_of 1 = .ok (.getfield 7, 3) := by decide +kernel
theorem dX6_of_4 : decode cX6_of 4 = .ok (.sipush 149, 3) := by decide +kernel
theorem dX6_of_7 : decode cX6_of 7 = .ok (.bipush 10, 2) := by decide +kernel
theorem dX6_of_9 : decode cX6_of 9 = .ok (.iload_n 1, 1) := by decide +kernel
theorem dX6_of_10 : decode cX6_of 10 = .ok (.imul, 1) := by decide +kernel
theorem dX6_of_11 : decode cX6_of 11 = .ok (.iadd, 1) := by decide +kernel
theorem dX6_of_12 : decode cX6_of 12 = .ok (.iload_n 2, 1) := by decide +kernel
theorem dX6_of_13 : decode cX6_of 13 = .ok (.iadd, 1) := by decide +kernel
theorem dX6_of_14 : decode cX6_of 14 = .ok (.laload, 1) := by decide +kernel
theorem dX6_of_15 : decode cX6_of 15 = .ok (.lreturn, 1) := by decide +kernel
theorem dX6_presents_0 : decode cX6_presents 0 = .ok (.aload_n 0, 1) := by decide +kernel
theorem dX6_presents_1 : decode cX6_presents 1 = .ok (.getfield 185, 3) := by decide +kernel
theorem dX6_presents_4 : decode cX6_presents 4 = .ok (.aload_n 0, 1) := by decide +kernel
theorem dX6_presents_5 : decode cX6_presents 5 = .ok (.invokevirtual 199, 3) := by decide +kernel
theorem dX6_presents_8 : decode cX6_presents 8 = .ok (.isub, 1) := by decide +kernel
theorem dX6_presents_9 : decode cX6_presents 9 = .ok (.ireturn, 1) := by decide +kernel
theorem dX6_steps_0 : decode cX6_steps 0 = .ok (.aload_n 0, 1) := by decide +kernel
theorem dX6_steps_1 : decode cX6_steps 1 = .ok (.getfield 7, 3) := by decide +kernel
theorem dX6_steps_4 : decode cX6_steps 4 = .ok (.iconst 4, 1) := by decide +kernel
theorem dX6_steps_5 : decode cX6_steps 5 = .ok (.laload, 1) := by decide +kernel
theorem dX6_steps_6 : decode cX6_steps 6 = .ok (.l2i, 1) := by decide +kernel
theorem dX6_steps_7 : decode cX6_steps 7 = .ok (.ireturn, 1) := by decide +kernel
set_option maxHeartbeats 4000000 in
set_option maxRecDepth 100000 in
theorem gX6_isPresent (l : Launch) (D : va_G) (h0 h1 : Nat) (k : Int32) (v0 : Value) (v1 : Value) (v2 : Value) (v3 : Value) (v4 : Value) (v5 : Value) (v6 : Value) (v7 : Value) (v8 : Value) (v9 : Value) (v10 : Value) (v11 : Value) (v12 : Value) (v13 : Value) (v14 : Value) (v15 : Value) (v16 : Value) (v17 : Value) (v18 : Value) (v19 : Value) (v20 : Value) (v21 : Value) (v22 : Value) (v23 : Value) (v24 : Value) (v25 : Value) (f0 : Nat → Int64) (a0 : ClassId) (hk0 : -101 ≤ k.toInt) (hk1 : k.toInt ≤ 507) : CT l yX6_isPresent cX6_isPresent 2 (some .boolean) { frames := 0, cells := 0, slots := 0, locals := 0 } [.ref h0, .int k] D [(h0, .inr (6, [v0, .ref h1, v1, v2, v3, v4, v5, v6, v7, v8, v9, v10, v11, v12, v13, v14, v15, v16, v17, v18, v19, v20, v21, v22, v23, v24, v25])), (h1, .inl (a0, 609, .inr (.inl f0)))] [(a0, .long)] XN [] (ei (fun _ : Unit => True) (fun _ => if f0 (101 + k.toInt).toNat = -1 then 1 else 0) (fun _ => []) (fun _ => []) D) 0 0 := by
  refine CT.ofR (by decide +kernel) (Nat.le_of_ble_eq_true rfl) ?_
  intro p e s m below meth c A ls hcs hP hK hD hX hA hS hl
  obtain ⟨hx, hb, hr, hml, hown, hg, hlocks, hin⟩ := hcs
  have hown : s.vm.findClass RX6 = some m.cls := hown
  have hl : lv_has ls 2 [(0, .ref h0), (1, .int k)] := hl
  refine lv_aload_n hx hb dX6_isPresent_0 rfl (lv_at hl 0 rfl) ?_
  refine va_get (D := D) (ci := 6) (v := .ref h1) (C := RX6) (T := TX6) (N := 27) hx hb hg inX6 hown hK hP 0 rfl rfl 1 (by decide) (hg _ k1220) (fun _ h9 => h9) rfl dX6_isPresent_1 ?_
  refine lv_bipush (v := 101) hx hb dX6_isPresent_4 (by decide) ?_
  refine lv_iload_n hx hb dX6_isPresent_6 rfl (lv_at hl 1 rfl) ?_
  refine lv_iadd hx hb dX6_isPresent_7 ?_
  refine g_add (x := 101) (y := k) (by rw [(show (101 : Int32).toInt = 101 from by decide)]; omega) (by rw [(show (101 : Int32).toInt = 101 from by decide)]; omega) (fun t ht => ?_)
  rw [(show (101 : Int32).toInt = 101 from by decide)] at ht
  refine aldL hx hb hK hP 1 0 rfl rfl (101 + k.toInt).toNat (g_cl (by omega)) (g_in (by omega) (by omega)) (v := f0 (101 + k.toInt).toNat) rfl dX6_isPresent_8 ?_
  refine lv_ldc2 hx hb hown (hg _ k1218) dX6_isPresent_9 ?_
  refine W.lcmp hx hb dX6_isPresent_12 ?_
  refine lv_if_ne (tgt := 20) hx hb dX6_isPresent_13 (by decide) (fun c9 => ?_) (fun c9 => ?_)
  · rw [if_neg (fun q => c9 (lgc_eq (by rw [q])))]
    refine lv_iconst (v := 0) hx hb dX6_isPresent_20 (by decide) ?_
    exact fz0 hx hb hr rfl hlocks hK hS (Nat.le_of_ble_eq_true rfl) (Nat.le_of_ble_eq_true rfl) dX6_isPresent_21
  · rw [if_pos (Int64.toInt_inj.mp (gl_eq c9))]
    refine lv_iconst (v := 1) hx hb dX6_isPresent_16 (by decide) ?_
    refine lv_goto (tgt := 21) hx hb dX6_isPresent_17 (by decide) ?_
    exact fz0 hx hb hr rfl hlocks hK hS (Nat.le_of_ble_eq_true rfl) (Nat.le_of_ble_eq_true rfl) dX6_isPresent_21
set_option maxHeartbeats 4000000 in
set_option maxRecDepth 100000 in
theorem gX6_of (l : Launch) (D : va_G) (h0 h1 : Nat) (k j : Int32) (v0 : Value) (v1 : Value) (v2 : Value) (v3 : Value) (v4 : Value) (v5 : Value) (v6 : Value) (v7 : Value) (v8 : Value) (v9 : Value) (v10 : Value) (v11 : Value) (v12 : Value) (v13 : Value) (v14 : Value) (v15 : Value) (v16 : Value) (v17 : Value) (v18 : Value) (v19 : Value) (v20 : Value) (v21 : Value) (v22 : Value) (v23 : Value) (v24 : Value) (v25 : Value) (f0 : Nat → Int64) (a0 : ClassId) (hk0 : 0 ≤ k.toInt) (hk1 : k.toInt ≤ 45) (hj0 : 0 ≤ j.toInt) (hj1 : j.toInt ≤ 9) : CT l yX6_of cX6_of 3 (some .long) { frames := 0, cells := 0, slots := 0, locals := 0 } [.ref h0, .int k, .int j] D [(h0, .inr (6, [v0, .ref h1, v1, v2, v3, v4, v5, v6, v7, v8, v9, v10, v11, v12, v13, v14, v15, v16, v17, v18, v19, v20, v21, v22, v23, v24, v25])), (h1, .inl (a0, 609, .inr (.inl f0)))] [(a0, .long)] XN [] (el (fun _ : Unit => True) (fun _ => f0 (149 + 10 * k.toInt + j.toInt).toNat) (fun _ => []) (fun _ => []) D) 0 0 := by
  refine CT.ofR (by decide +kernel) (Nat.le_of_ble_eq_true rfl) ?_
  intro p e s m below meth c A ls hcs hP hK hD hX hA hS hl
  obtain ⟨hx, hb, hr, hml, hown, hg, hlocks, hin⟩ := hcs
  have hown : s.vm.findClass RX6 = some m.cls := hown
  have hl : lv_has ls 3 [(0, .ref h0), (1, .int k), (2, .int j)] := hl
  refine lv_aload_n hx hb dX6_of_0 rfl (lv_at hl 0 rfl) ?_
  refine va_get (D := D) (ci := 6) (v := .ref h1) (C := RX6) (T := TX6) (N := 27) hx hb hg inX6 hown hK hP 0 rfl rfl 1 (by decide) (hg _ k1220) (fun _ h9 => h9) rfl dX6_of_1 ?_
  refine lv_sipush (v := 149) hx hb dX6_of_4 (by decide) ?_
  refine lv_bipush (v := 10) hx hb dX6_of_7 (by decide) ?_
  refine lv_iload_n hx hb dX6_of_9 rfl (lv_at hl 1 rfl) ?_
  refine lv_imul hx hb dX6_of_10 ?_
  refine g_mul (x := 10) (y := k) (by rw [(show (10 : Int32).toInt = 10 from by decide)]; omega) (by rw [(show (10 : Int32).toInt = 10 from by decide)]; omega) (fun t1 ht1 => ?_)
  rw [(show (10 : Int32).toInt = 10 from by decide)] at ht1
  refine lv_iadd hx hb dX6_of_11 ?_
  refine g_add (x := 149) (y := t1) (by rw [(show (149 : Int32).toInt = 149 from by decide)]; omega) (by rw [(show (149 : Int32).toInt = 149 from by decide)]; omega) (fun t2 ht2 => ?_)
  rw [(show (149 : Int32).toInt = 149 from by decide)] at ht2
  refine lv_iload_n hx hb dX6_of_12 rfl (lv_at hl 2 rfl) ?_
  refine lv_iadd hx hb dX6_of_13 ?_
  refine g_add (x := t2) (y := j) (by omega) (by omega) (fun t3 ht3 => ?_)
  refine aldL hx hb hK hP 1 0 rfl rfl (149 + 10 * k.toInt + j.toInt).toNat (g_cl (by omega)) (g_in (by omega) (by omega)) (v := f0 (149 + 10 * k.toInt + j.toInt).toNat) rfl dX6_of_14 ?_
  exact fl0 hx hb hr hlocks hK hS (Nat.le_of_ble_eq_true rfl) (Nat.le_of_ble_eq_true rfl) dX6_of_15
set_option maxHeartbeats 4000000 in
set_option maxRecDepth 100000 in
theorem gX6_in (l : Launch) (D : va_G) (x y z : Int64) : CT l yX6_in cX6_in 6 (some .boolean) { frames := 0, cells := 0, slots := 0, locals := 0 } [.long x, .long y, .long z] D [] [] XN [] (ei (fun _ : Unit => True) (fun _ => if y.toInt ≤ x.toInt ∧ x.toInt ≤ z.toInt then 1 else 0) (fun _ => []) (fun _ => []) D) 0 0 := by
  refine CT.ofR (by decide +kernel) (Nat.le_of_ble_eq_true rfl) ?_
  intro p e s m below meth c A ls hcs hP hK hD hX hA hS hl
  obtain ⟨hx, hb, hr, hml, hown, hg, hlocks, hin⟩ := hcs
  have hown : s.vm.findClass RX6 = some m.cls := hown
  have hl : lv_has ls 6 [(0, .long x), (2, .long y), (4, .long z)] := hl
  refine lv_lload_n hx hb dX6_in_0 rfl (lv_at hl 0 rfl) ?_
  refine lv_lload_n hx hb dX6_in_1 rfl (lv_at hl 1 rfl) ?_
  refine W.lcmp hx hb dX6_in_2 ?_
  refine lv_if_lt (tgt := 17) hx hb dX6_in_3 (by decide) (fun c9 => ?_) (fun c9 => ?_)
  · have c5 := gl_lt c9
    rw [if_neg (fun q => by omega)]
    refine lv_iconst (v := 0) hx hb dX6_in_17 (by decide) ?_
    exact fz0 hx hb hr rfl hlocks hK hS (Nat.le_of_ble_eq_true rfl) (Nat.le_of_ble_eq_true rfl) dX6_in_18
  · have c5 := gl_nlt c9
    refine lv_lload_n hx hb dX6_in_6 rfl (lv_at hl 0 rfl) ?_
    refine lv_lload hx hb dX6_in_7 (lv_at hl 2 rfl) ?_
    refine W.lcmp hx hb dX6_in_9 ?_
    refine lv_if_gt (tgt := 17) hx hb dX6_in_10 (by decide) (fun c9 => ?_) (fun c9 => ?_)
    · have c6 := gl_gt c9
      rw [if_neg (fun q => by omega)]
      refine lv_iconst (v := 0) hx hb dX6_in_17 (by decide) ?_
      exact fz0 hx hb hr rfl hlocks hK hS (Nat.le_of_ble_eq_true rfl) (Nat.le_of_ble_eq_true rfl) dX6_in_18
    · have c6 := gl_ngt c9
      rw [if_pos ⟨by omega, by omega⟩]
      refine lv_iconst (v := 1) hx hb dX6_in_13 (by decide) ?_
      refine lv_goto (tgt := 18) hx hb dX6_in_14 (by decide) ?_
      exact fz0 hx hb hr rfl hlocks hK hS (Nat.le_of_ble_eq_true rfl) (Nat.le_of_ble_eq_true rfl) dX6_in_18
set_option maxHeartbeats 4000000 in
set_option maxRecDepth 100000 in
theorem gX6_steps (l : Launch) (D : va_G) (h0 h1 : Nat) (v0 : Value) (v1 : Value) (v2 : Value) (v3 : Value) (v4 : Value) (v5 : Value) (v6 : Value) (v7 : Value) (v8 : Value) (v9 : Value) (v10 : Value) (v11 : Value) (v12 : Value) (v13 : Value) (v14 : Value) (v15 : Value) (v16 : Value) (v17 : Value) (v18 : Value) (v19 : Value) (v20 : Value) (v21 : Value) (v22 : Value) (v23 : Value) (v24 : Value) (v25 : Value) (f0 : Nat → Int64) (a0 : ClassId) : CT l yX6_steps cX6_steps 1 (some .int) { frames := 0, cells := 0, slots := 0, locals := 0 } [.ref h0] D [(h0, .inr (6, [v0, .ref h1, v1, v2, v3, v4, v5, v6, v7, v8, v9, v10, v11, v12, v13, v14, v15, v16, v17, v18, v19, v20, v21, v22, v23, v24, v25])), (h1, .inl (a0, 609, .inr (.inl f0)))] [(a0, .long)] XN [] (ei (fun _ : Unit => True) (fun _ => (f0 4).toInt32) (fun _ => []) (fun _ => []) D) 0 0 := by
  refine CT.ofR (by decide +kernel) (Nat.le_of_ble_eq_true rfl) ?_
  intro p e s m below meth c A ls hcs hP hK hD hX hA hS hl
  obtain ⟨hx, hb, hr, hml, hown, hg, hlocks, hin⟩ := hcs
  have hown : s.vm.findClass RX6 = some m.cls := hown
  have hl : lv_has ls 1 [(0, .ref h0)] := hl
  refine lv_aload_n hx hb dX6_steps_0 rfl (lv_at hl 0 rfl) ?_
  refine va_get (D := D) (ci := 6) (v := .ref h1) (C := RX6) (T := TX6) (N := 27) hx hb hg inX6 hown hK hP 0 rfl rfl 1 (by decide) (hg _ k1220) (fun _ h9 => h9) rfl dX6_steps_1 ?_
  refine lv_iconst (v := 4) hx hb dX6_steps_4 (by decide) ?_
  refine aldL hx hb hK hP 1 0 rfl rfl 4 (by decide) (vin (by decide)) (v := f0 4) rfl dX6_steps_5 ?_
  refine lv_l2i hx hb dX6_steps_6 rfl ?_
  exact fi0 hx hb hr hlocks hK hS (Nat.le_of_ble_eq_true rfl) (Nat.le_of_ble_eq_true rfl) dX6_steps_7
set_option maxHeartbeats 4000000 in
set_option maxRecDepth 100000 in
theorem gX6_presents (l : Launch) (D : va_G) (h0 h1 : Nat) (n : Int32) (v0 : Value) (v1 : Value) (v2 : Value) (v3 : Value) (v4 : Value) (v5 : Value) (v6 : Value) (v7 : Value) (v8 : Value) (v9 : Value) (v10 : Value) (v11 : Value) (v12 : Value) (v13 : Value) (v14 : Value) (v15 : Value) (v16 : Value) (v17 : Value) (v18 : Value) (v19 : Value) (v20 : Value) (v21 : Value) (v22 : Value) (v23 : Value) (v24 : Value) (f0 : Nat → Int64) (a0 : ClassId) : CT l yX6_presents cX6_presents 1 (some .int) { frames := 1, cells := 0, slots := 0, locals := 20 } [.ref h0] D [(h0, .inr (6, [v0, .ref h1, v1, v2, v3, v4, v5, .int n, v6, v7, v8, v9, v10, v11, v12, v13, v14, v15, v16, v17, v18, v19, v20, v21, v22, v23, v24])), (h1, .inl (a0, 609, .inr (.inl f0)))] [(a0, .long)] XN [] (ei (fun _ : Unit => True) (fun _ => n - (f0 4).toInt32) (fun _ => []) (fun _ => []) D) 0 0 := by
  refine CT.ofR (by decide +kernel) (Nat.le_of_ble_eq_true rfl) ?_
  intro p e s m below meth c A ls hcs hP hK hD hX hA hS hl
  obtain ⟨hx, hb, hr, hml, hown, hg, hlocks, hin⟩ := hcs
  have hown : s.vm.findClass RX6 = some m.cls := hown
  have hl : lv_has ls 1 [(0, .ref h0)] := hl
  refine lv_aload_n hx hb dX6_presents_0 rfl (lv_at hl 0 rfl) ?_
  refine va_get (D := D) (ci := 6) (v := .int n) (C := RX6) (T := TX6) (N := 27) hx hb hg inX6 hown hK hP 0 rfl rfl 7 (by decide) (hg _ k1226) (fun _ h9 => h9) rfl dX6_presents_1 ?_
  refine lv_aload_n hx hb dX6_presents_4 rfl (lv_at hl 0 rfl) ?_
  refine cVi (n := 0) (As := []) (rest := [.int n]) (wr := [(h0, .inr (6, [v0, .ref h1, v1, v2, v3, v4, v5, .int n, v6, v7, v8, v9, v10, v11, v12, v13, v14, v15, v16, v17, v18, v19, v20, v21, v22, v23, v24])), (h1, .inl (a0, 609, .inr (.inl f0)))]) (tr := [(a0, .long)]) hx hb hml hown hg okN (gX6_steps l D h0 h1 v0 v1 v2 v3 v4 v5 (.int n) v6 v7 v8 v9 v10 v11 v12 v13 v14 v15 v16 v17 v18 v19 v20 v21 v22 v23 v24 f0 a0) (mwV k1412 k1414 k52 k92 k1415) ⟨rfl, by decide, by decide, by decide +kernel⟩ ⟨rfl, rfl, (Nat.le_of_ble_eq_true rfl), (Nat.le_of_ble_eq_true rfl)⟩ hP hD hK hS xn [0, 1] [] [0, 1] [0] [0] rfl (by decide) rfl rfl (by decide) (by decide) rfl rfl (aNil hA hS) (fun _ _ => trivial) 0 rfl rfl rfl hl.1 rfl (Nat.le_of_ble_eq_true rfl) dX6_presents_5 ⟨(Nat.le_of_ble_eq_true rfl), (Nat.le_of_ble_eq_true rfl)⟩ (fun u H locs hφ hP hD hK hS hk => ?_)
  refine W.widen (k := 0) (n := 0) (Nat.le_of_ble_eq_true rfl) (Nat.le_of_ble_eq_true rfl) ?_
  refine lv_isub hx hb dX6_presents_8 ?_
  exact fi0 hx hb hr hlocks hK hS (Nat.le_of_ble_eq_true rfl) (Nat.le_of_ble_eq_true rfl) dX6_presents_9
