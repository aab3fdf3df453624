/-! the reference over any state: a loop (beside) -/
theorem k56 : Cond.selects RX6 yX6_isPresent yX6_isPresent ∈ GW := gm 56 (by decide +kernel) (by decide +kernel)
theorem k57 : Cond.selects RX6 yX6_isSample yX6_isSample ∈ GW := gm 57 (by decide +kernel) (by decide +kernel)
theorem k1313 : Cond.methodLink RX6 84 yX6_in ∈ GW := gm 1313 (by decide +kernel) (by decide +kernel)
theorem k1314 : Cond.static yX6_in ∈ GW := gm 1314 (by decide +kernel) (by decide +kernel)
theorem k1315 : Cond.code yX6_in cX6_in 6 (some .boolean) ∈ GW := gm 1315 (by decide +kernel) (by decide +kernel)
theorem k1428 : Cond.methodLink RX6 202 yX6_isPresent ∈ GW := gm 1428 (by decide +kernel) (by decide +kernel)
theorem k1430 : Cond.instanceMethod yX6_isPresent ∈ GW := gm 1430 (by decide +kernel) (by decide +kernel)
theorem k1431 : Cond.code yX6_isPresent cX6_isPresent 2 (some .boolean) ∈ GW := gm 1431 (by decide +kernel) (by decide +kernel)
theorem k1436 : Cond.methodLink RX6 205 yX6_isSample ∈ GW := gm 1436 (by decide +kernel) (by decide +kernel)
theorem k1438 : Cond.instanceMethod yX6_isSample ∈ GW := gm 1438 (by decide +kernel) (by decide +kernel)
theorem k1439 : Cond.code yX6_isSample cX6_isSample 2 (some .boolean) ∈ GW := gm 1439 (by decide +kernel) (by decide +kernel)
theorem dX6_beside_0 : decode cX6_beside 0 = .ok (.iload_n 1, 1) := by decide +kernel
theorem dX6_beside_1 : decode cX6_beside 1 = .ok (.iload_n 2, 1) := by decide +kernel
theorem dX6_beside_2 : decode cX6_beside 2 = .ok (.iadd, 1) := by decide +kernel
theorem dX6_beside_3 : decode cX6_beside 3 = .ok (.istore_n 3, 1) := by decide +kernel
theorem dX6_beside_4 : decode cX6_beside 4 = .ok (.iload_n 3, 1) := by decide +kernel
theorem dX6_beside_5 : decode cX6_beside 5 = .ok (.ifCond .lt 26, 3) := by decide +kernel
theorem dX6_beside_8 : decode cX6_beside 8 = .ok (.iload_n 3, 1) := by decide +kernel
theorem dX6_beside_9 : decode cX6_beside 9 = .ok (.aload_n 0, 1) := by decide +kernel
theorem dX6_beside_10 : decode cX6_beside 10 = .ok (.getfield 185, 3) := by decide +kernel
theorem dX6_beside_13 : decode cX6_beside 13 = .ok (.if_icmp .ge 18, 3) := by decide +kernel
theorem dX6_beside_16 : decode cX6_beside 16 = .ok (.aload_n 0, 1) := by decide +kernel
theorem dX6_beside_17 : decode cX6_beside 17 = .ok (.iload_n 3, 1) := by decide +kernel
theorem dX6_beside_18 : decode cX6_beside 18 = .ok (.invokevirtual 202, 3) := by decide +kernel
theorem dX6_beside_21 : decode cX6_beside 21 = .ok (.ifCond .ne 10, 3) := by decide +kernel
theorem dX6_beside_24 : decode cX6_beside 24 = .ok (.iload_n 3, 1) := by decide +kernel
theorem dX6_beside_25 : decode cX6_beside 25 = .ok (.iload_n 2, 1) := by decide +kernel
theorem dX6_beside_26 : decode cX6_beside 26 = .ok (.iadd, 1) := by decide +kernel
theorem dX6_beside_27 : decode cX6_beside 27 = .ok (.istore_n 3, 1) := by decide +kernel
theorem dX6_beside_28 : decode cX6_beside 28 = .ok (.goto (-24), 3) := by decide +kernel
theorem dX6_beside_31 : decode cX6_beside 31 = .ok (.aload_n 0, 1) := by decide +kernel
theorem dX6_beside_32 : decode cX6_beside 32 = .ok (.iload_n 3, 1) := by decide +kernel
theorem dX6_beside_33 : decode cX6_beside 33 = .ok (.invokevirtual 205, 3) := by decide +kernel
theorem dX6_beside_36 : decode cX6_beside 36 = .ok (.ifCond .eq 7, 3) := by decide +kernel
theorem dX6_beside_39 : decode cX6_beside 39 = .ok (.iload_n 3, 1) := by decide +kernel
theorem dX6_beside_40 : decode cX6_beside 40 = .ok (.goto 4, 3) := by decide +kernel
theorem dX6_beside_43 : decode cX6_beside 43 = .ok (.iconst (-1), 1) := by decide +kernel
theorem dX6_beside_44 : decode cX6_beside 44 = .ok (.ireturn, 1) := by decide +kernel
theorem dX6_isSample_0 : decode cX6_isSample 0 = .ok (.iload_n 1, 1) := by decide +kernel
theorem dX6_isSample_1 : decode cX6_isSample 1 = .ok (.i2l, 1) := by decide +kernel
theorem dX6_isSample_2 : decode cX6_isSample 2 = .ok (.lconst 0, 1) := by decide +kernel
theorem dX6_isSample_3 : decode cX6_isSample 3 = .ok (.aload_n 0, 1) := by decide +kernel
theorem dX6_isSample_4 : decode cX6_isSample 4 = .ok (.getfield 185, 3) := by decide +kernel
theorem dX6_isSample_7 : decode cX6_isSample 7 = .ok (.iconst 1, 1) := by decide +kernel
theorem dX6_isSample_8 : decode cX6_isSample 8 = .ok (.isub, 1) := by decide +kernel
theorem dX6_isSample_9 : decode cX6_isSample 9 = .ok (.i2l, 1) := by decide +kernel
theorem dX6_isSample_10 : decode cX6_isSample 10 = .ok (.invokestatic 84, 3) := by decide +kernel
theorem dX6_isSample_13 : decode cX6_isSample 13 = .ok (.ireturn, 1) := by decide +kernel
set_option maxHeartbeats 4000000 in
set_option maxRecDepth 100000 in
theorem gX6_isSample (l : Launch) (D : va_G) (h0 : Nat) (n k : Int32) (v0 : Value) (v1 : Value) (v2 : Value) (v3 : Value) (v4 : Value) (v5 : Value) (v6 : Value) (v7 : Value) (v8 : Value) (v9 : Value) (v10 : Value) (v11 : Value) (v12 : Value) (v13 : Value) (v14 : Value) (v15 : Value) (v16 : Value) (v17 : Value) (v18 : Value) (v19 : Value) (v20 : Value) (v21 : Value) (v22 : Value) (v23 : Value) (v24 : Value) (v25 : Value) (hn0 : 0 ≤ n.toInt) (hn1 : n.toInt ≤ 48) : CT l yX6_isSample cX6_isSample 2 (some .boolean) { frames := 1, cells := 0, slots := 0, locals := 40 } [.ref h0, .int k] D [(h0, .inr (6, [v0, v1, v2, v3, v4, v5, v6, .int n, v7, v8, v9, v10, v11, v12, v13, v14, v15, v16, v17, v18, v19, v20, v21, v22, v23, v24, v25]))] [] XN [] (ei (fun _ : Unit => True) (fun _ => if 0 ≤ k.toInt ∧ k.toInt < n.toInt then 1 else 0) (fun _ => []) (fun _ => []) D) 0 0 := by
  refine CT.ofR (by decide +kernel) (Nat.le_of_ble_eq_true rfl) ?_
  intro p e s m below meth c A ls hcs hP hK hD hX hA hS hl
  obtain ⟨hx, hb, hr, hml, hown, hg, hlocks, hin⟩ := hcs
  have hown : s.vm.findClass RX6 = some m.cls := hown
  have hl : lv_has ls 2 [(0, .ref h0), (1, .int k)] := hl
  refine lv_iload_n hx hb dX6_isSample_0 rfl (lv_at hl 1 rfl) ?_
  refine lv_i2l hx hb dX6_isSample_1 rfl ?_
  refine g_i2l (fun kk hkk => ?_)
  refine lv_lconst (v := 0) hx hb dX6_isSample_2 (by decide) ?_
  refine lv_aload_n hx hb dX6_isSample_3 rfl (lv_at hl 0 rfl) ?_
  refine va_get (D := D) (ci := 6) (v := .int n) (C := RX6) (T := TX6) (N := 27) hx hb hg inX6 hown hK hP 0 rfl rfl 7 (by decide) (hg _ k1226) (fun _ h9 => h9) rfl dX6_isSample_4 ?_
  refine lv_iconst (v := 1) hx hb dX6_isSample_7 (by decide) ?_
  refine lv_isub hx hb dX6_isSample_8 ?_
  refine g_sub (x := n) (y := 1) (by rw [g_one]; omega) (by rw [g_one]; omega) (fun t ht => ?_)
  rw [g_one] at ht
  refine lv_i2l hx hb dX6_isSample_9 rfl ?_
  refine g_i2l (fun u0 hu => ?_)
  refine cSi (n := 3) (As := [.long kk, .long 0, .long u0]) (rest := []) (wr := [(h0, .inr (6, [v0, v1, v2, v3, v4, v5, v6, .int n, v7, v8, v9, v10, v11, v12, v13, v14, v15, v16, v17, v18, v19, v20, v21, v22, v23, v24, v25]))]) (tr := []) hx hb hml hown hg okN (gX6_in l D kk 0 u0) (mwS k1313 k1314 k92 k1315) ⟨rfl, by decide, by decide, by decide +kernel⟩ ⟨rfl, rfl, (Nat.le_of_ble_eq_true rfl), (Nat.le_of_ble_eq_true rfl)⟩ hP hD hK hS xn [] [] [0] [] [] rfl (by decide) rfl rfl (by decide) (by decide) rfl rfl (aNil hA hS) (fun _ _ => trivial) rfl hl.1 rfl (Nat.le_of_ble_eq_true rfl) dX6_isSample_10 ⟨(Nat.le_of_ble_eq_true rfl), (Nat.le_of_ble_eq_true rfl)⟩ (fun u H locs hφ hP hD hK hS hk => ?_)
  refine W.widen (k := 0) (n := 0) (Nat.le_of_ble_eq_true rfl) (Nat.le_of_ble_eq_true rfl) ?_
  have z0 : (0 : Int64).toInt = 0 := by decide
  by_cases q : 0 ≤ k.toInt ∧ k.toInt < n.toInt
  · rw [if_pos q]
    refine ti 1 (if_pos (by rw [z0]; omega)) ?_
    exact fz0 hx hb hr rfl hlocks hK hS (Nat.le_of_ble_eq_true rfl) (Nat.le_of_ble_eq_true rfl) dX6_isSample_13
  · rw [if_neg q]
    refine ti 0 (if_neg (by rw [z0]; omega)) ?_
    exact fz0 hx hb hr rfl hlocks hK hS (Nat.le_of_ble_eq_true rfl) (Nat.le_of_ble_eq_true rfl) dX6_isSample_13
set_option maxHeartbeats 4000000 in
set_option maxRecDepth 100000 in
theorem gX6_beside (l : Launch) (D : va_G) (h0 h1 : Nat) (n k b : Int32) (v0 : Value) (v1 : Value) (v2 : Value) (v3 : Value) (v4 : Value) (v5 : Value) (v6 : Value) (v7 : Value) (v8 : Value) (v9 : Value) (v10 : Value) (v11 : Value) (v12 : Value) (v13 : Value) (v14 : Value) (v15 : Value) (v16 : Value) (v17 : Value) (v18 : Value) (v19 : Value) (v20 : Value) (v21 : Value) (v22 : Value) (v23 : Value) (v24 : Value) (f0 : Nat → Int64) (a0 : ClassId) (hn0 : 0 ≤ n.toInt) (hn1 : n.toInt ≤ 48) (hk0 : 0 ≤ k.toInt) (hk1 : k.toInt ≤ 47) (hb1 : b.toInt = 1 ∨ b.toInt = -1) : CT l yX6_beside cX6_beside 4 (some .int) { frames := 2, cells := 0, slots := 0, locals := 80 } [.ref h0, .int k, .int b] D [(h0, .inr (6, [v0, .ref h1, v1, v2, v3, v4, v5, .int n, v6, v7, v8, v9, v10, v11, v12, v13, v14, v15, v16, v17, v18, v19, v20, v21, v22, v23, v24])), (h1, .inl (a0, 609, .inr (.inl f0)))] [(a0, .long)] XN [] (ei (fun r : Int32 => r.toInt = -1 ∨ (0 ≤ r.toInt ∧ r.toInt < n.toInt ∧ f0 (101 + r.toInt).toNat = -1)) (fun r => r) (fun _ => []) (fun _ => []) D) 0 0 := by
  refine CT.ofR (by decide +kernel) (Nat.le_of_ble_eq_true rfl) ?_
  intro p e s m below meth c A ls hcs hP hK hD hX hA hS hl
  obtain ⟨hx, hb, hr, hml, hown, hg, hlocks, hin⟩ := hcs
  have hown : s.vm.findClass RX6 = some m.cls := hown
  have hl : lv_has ls 4 [(0, .ref h0), (1, .int k), (2, .int b)] := hl
  refine lv_iload_n hx hb dX6_beside_0 rfl (lv_at hl 1 rfl) ?_
  refine lv_iload_n hx hb dX6_beside_1 rfl (lv_at hl 2 rfl) ?_
  refine lv_iadd hx hb dX6_beside_2 ?_
  refine g_add (by omega) (by omega) (fun to hto => ?_)
  refine lv_istore_n (lv' := [(3, .int to), (0, .ref h0), (1, .int k), (2, .int b)]) hx hb dX6_beside_3 rfl hl (by decide) rfl (fun ls hl => ?_)
  generalize hQ9 : MQ below _ _ s _ _ A = Q9
  have hexit : ∀ (to : Int32) (H : Heap) (locs : List Loc) (ls : Array Slot), (0 ≤ to.toInt ∧ to.toInt < n.toInt → f0 (101 + to.toInt).toNat = -1) → va_P D vwCl [(h0, .inr (6, [v0, .ref h1, v1, v2, v3, v4, v5, .int n, v6, v7, v8, v9, v10, v11, v12, v13, v14, v15, v16, v17, v18, v19, v20, v21, v22, v23, v24])), (h1, .inl (a0, 609, .inr (.inl f0)))] H → va_D (fun _ => True) [(h0, .inr (6, [v0, .ref h1, v1, v2, v3, v4, v5, .int n, v6, v7, v8, v9, v10, v11, v12, v13, v14, v15, v16, v17, v18, v19, v20, v21, v22, v23, v24])), (h1, .inl (a0, 609, .inr (.inl f0)))] → va_K D vwCl [(a0, .long)] s → va_S A s.heap H locs → lv_has ls 4 [(3, .int to), (0, .ref h0), (1, .int k), (2, .int b)] → W p l e { frames := 2, cells := 0, slots := 0, locals := 80 } s m #[.ref h0, .int k, .int b] below meth c H locs 0 0 Q9 (F0 m 31 ls []) := by
    intro to H locs ls hpr hP hD hK hS hl
    refine lv_aload_n hx hb dX6_beside_31 rfl (lv_at hl 1 rfl) ?_
    refine lv_iload_n hx hb dX6_beside_32 rfl (lv_at hl 0 rfl) ?_
    refine cVi (n := 1) (As := [.int to]) (rest := []) (wr := [(h0, .inr (6, [v0, .ref h1, v1, v2, v3, v4, v5, .int n, v6, v7, v8, v9, v10, v11, v12, v13, v14, v15, v16, v17, v18, v19, v20, v21, v22, v23, v24])), (h1, .inl (a0, 609, .inr (.inl f0)))]) (tr := [(a0, .long)]) hx hb hml hown hg okN (gX6_isSample l D h0 n to v0 (.ref h1) v1 v2 v3 v4 v5 v6 v7 v8 v9 v10 v11 v12 v13 v14 v15 v16 v17 v18 v19 v20 v21 v22 v23 v24 hn0 hn1) (mwV k1436 k1438 k57 k92 k1439) ⟨rfl, by decide, by decide, by decide +kernel⟩ ⟨rfl, rfl, (Nat.le_of_ble_eq_true rfl), (Nat.le_of_ble_eq_true rfl)⟩ hP hD hK hS xn [0] [] [0, 1] [] [0] rfl (by decide) rfl rfl (by decide) (by decide) rfl rfl (aNil hA hS) (fun _ _ => trivial) 0 rfl rfl rfl hl.1 rfl (Nat.le_of_ble_eq_true rfl) dX6_beside_33 ⟨(Nat.le_of_ble_eq_true rfl), (Nat.le_of_ble_eq_true rfl)⟩ (fun u H locs hφ hP hD hK hS hk => ?_)
    refine W.widen (k := 0) (n := 0) (Nat.le_of_ble_eq_true rfl) (Nat.le_of_ble_eq_true rfl) ?_
    subst hQ9
    by_cases q : 0 ≤ to.toInt ∧ to.toInt < n.toInt
    · refine ti 1 (if_pos q) ?_
      refine lv_if_eq (tgt := 43) hx hb dX6_beside_36 (by decide) (fun c9 => absurd c9 (by decide)) (fun _ => ?_)
      refine lv_iload_n hx hb dX6_beside_39 rfl (lv_at hl 0 rfl) ?_
      refine lv_goto (tgt := 44) hx hb dX6_beside_40 (by decide) ?_
      exact fi hx hb hr hlocks pNil dNil hK hS to (Or.inr ⟨q.1, q.2, hpr q⟩) rfl [] [] rfl (by decide) rfl (Nat.le_of_ble_eq_true rfl) (Nat.le_of_ble_eq_true rfl) dX6_beside_44
    · refine ti 0 (if_neg q) ?_
      refine lv_if_eq (tgt := 43) hx hb dX6_beside_36 (by decide) (fun _ => ?_) (fun c9 => absurd (by decide) c9)
      refine lv_iconst (v := -1) hx hb dX6_beside_43 (by decide) ?_
      exact fi hx hb hr hlocks pNil dNil hK hS (-1) (Or.inl (by decide)) rfl [] [] rfl (by decide) rfl (Nat.le_of_ble_eq_true rfl) (Nat.le_of_ble_eq_true rfl) dX6_beside_44
  have hloop : ∀ (N9 : Nat) (to : Int32) (H : Heap) (locs : List Loc) (ls : Array Slot), -1 ≤ to.toInt → to.toInt ≤ 48 → (b.toInt = 1 → 48 - to.toInt < N9) → (b.toInt = -1 → to.toInt + 1 < N9) → va_P D vwCl [(h0, .inr (6, [v0, .ref h1, v1, v2, v3, v4, v5, .int n, v6, v7, v8, v9, v10, v11, v12, v13, v14, v15, v16, v17, v18, v19, v20, v21, v22, v23, v24])), (h1, .inl (a0, 609, .inr (.inl f0)))] H → va_D (fun _ => True) [(h0, .inr (6, [v0, .ref h1, v1, v2, v3, v4, v5, .int n, v6, v7, v8, v9, v10, v11, v12, v13, v14, v15, v16, v17, v18, v19, v20, v21, v22, v23, v24])), (h1, .inl (a0, 609, .inr (.inl f0)))] → va_K D vwCl [(a0, .long)] s → va_S A s.heap H locs → lv_has ls 4 [(3, .int to), (0, .ref h0), (1, .int k), (2, .int b)] → W p l e { frames := 2, cells := 0, slots := 0, locals := 80 } s m #[.ref h0, .int k, .int b] below meth c H locs 0 0 Q9 (F0 m 4 ls []) := by
    intro N9
    induction N9 with
    | zero =>
      intro to H locs ls t0 t1 m1 m2
      exfalso
      rcases hb1 with h | h
      · have := m1 h; omega
      · have := m2 h; omega
    | succ N9 ih =>
      intro to H locs ls t0 t1 m1 m2 hP hD hK hS hl
      refine lv_iload_n hx hb dX6_beside_4 rfl (lv_at hl 0 rfl) ?_
      refine lv_if_lt (tgt := 31) hx hb dX6_beside_5 (by decide) (fun c9 => ?_) (fun c9 => ?_)
      · have c5 := gi_lt c9
        rw [g_zero] at c5
        exact hexit to H locs ls (fun q => by omega) hP hD hK hS hl
      have c5 := gi_nlt c9
      rw [g_zero] at c5
      refine lv_iload_n hx hb dX6_beside_8 rfl (lv_at hl 0 rfl) ?_
      refine lv_aload_n hx hb dX6_beside_9 rfl (lv_at hl 1 rfl) ?_
      refine va_get (D := D) (ci := 6) (v := .int n) (C := RX6) (T := TX6) (N := 27) hx hb hg inX6 hown hK hP 0 rfl rfl 7 (by decide) (hg _ k1226) (fun _ h9 => h9) rfl dX6_beside_10 ?_
      refine lv_icmp_ge (tgt := 31) hx hb dX6_beside_13 (by decide) (fun c9 => ?_) (fun c9 => ?_)
      · have c6 := gi_le c9
        exact hexit to H locs ls (fun q => by omega) hP hD hK hS hl
      have c6 := gi_nle c9
      refine lv_aload_n hx hb dX6_beside_16 rfl (lv_at hl 1 rfl) ?_
      refine lv_iload_n hx hb dX6_beside_17 rfl (lv_at hl 0 rfl) ?_
      refine cVi (n := 1) (As := [.int to]) (rest := []) (wr := [(h0, .inr (6, [v0, .ref h1, v1, v2, v3, v4, v5, .int n, v6, v7, v8, v9, v10, v11, v12, v13, v14, v15, v16, v17, v18, v19, v20, v21, v22, v23, v24])), (h1, .inl (a0, 609, .inr (.inl f0)))]) (tr := [(a0, .long)]) hx hb hml hown hg okN (gX6_isPresent l D h0 h1 to v0 v1 v2 v3 v4 v5 (.int n) v6 v7 v8 v9 v10 v11 v12 v13 v14 v15 v16 v17 v18 v19 v20 v21 v22 v23 v24 f0 a0 (by omega) (by omega)) (mwV k1428 k1430 k56 k92 k1431) ⟨rfl, by decide, by decide, by decide +kernel⟩ ⟨rfl, rfl, (Nat.le_of_ble_eq_true rfl), (Nat.le_of_ble_eq_true rfl)⟩ hP hD hK hS xn [0, 1] [] [0, 1] [0] [0] rfl (by decide) rfl rfl (by decide) (by decide) rfl rfl (aNil hA hS) (fun _ _ => trivial) 0 rfl rfl rfl hl.1 rfl (Nat.le_of_ble_eq_true rfl) dX6_beside_18 ⟨(Nat.le_of_ble_eq_true rfl), (Nat.le_of_ble_eq_true rfl)⟩ (fun u H locs hφ hP hD hK hS hk => ?_)
      refine W.widen (k := 0) (n := 0) (Nat.le_of_ble_eq_true rfl) (Nat.le_of_ble_eq_true rfl) ?_
      by_cases q : f0 (101 + to.toInt).toNat = -1
      · refine ti 1 (if_pos q) ?_
        refine lv_if_ne (tgt := 31) hx hb dX6_beside_21 (by decide) (fun _ => ?_) (fun c9 => absurd c9 (by decide))
        exact hexit to _ _ _ (fun _ => q) hP hD hK hS hl
      · refine ti 0 (if_neg q) ?_
        refine lv_if_ne (tgt := 31) hx hb dX6_beside_21 (by decide) (fun c9 => absurd (by decide) c9) (fun _ => ?_)
        refine lv_iload_n hx hb dX6_beside_24 rfl (lv_at hl 0 rfl) ?_
        refine lv_iload_n hx hb dX6_beside_25 rfl (lv_at hl 3 rfl) ?_
        refine lv_iadd hx hb dX6_beside_26 ?_
        refine g_add (by omega) (by omega) (fun t ht => ?_)
        refine lv_istore_n (lv' := [(3, .int t), (0, .ref h0), (1, .int k), (2, .int b)]) hx hb dX6_beside_27 rfl hl (by decide) rfl (fun ls hl => ?_)
        refine lv_goto (tgt := 4) hx hb dX6_beside_28 (by decide) ?_
        exact ih t _ _ _ (by omega) (by omega) (fun h => by have := m1 h; omega) (fun h => by have := m2 h; omega) hP hD hK hS hl
  exact hloop 60 to _ _ _ (by omega) (by omega) (fun _ => by omega) (fun _ => by omega) hP hD hK hS hl
