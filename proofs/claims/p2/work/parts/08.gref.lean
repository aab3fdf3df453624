/-! the reference over any state: the sum of the weights -/
theorem dX6_weights_0 : decode cX6_weights 0 = .ok (.lconst 0, 1) := by decide +kernel
theorem dX6_weights_1 : decode cX6_weights 1 = .ok (.lstore_n 1, 1) := by decide +kernel
theorem dX6_weights_2 : decode cX6_weights 2 = .ok (.iconst 0, 1) := by decide +kernel
theorem dX6_weights_3 : decode cX6_weights 3 = .ok (.istore_n 3, 1) := by decide +kernel
theorem dX6_weights_4 : decode cX6_weights 4 = .ok (.iload_n 3, 1) := by decide +kernel
theorem dX6_weights_5 : decode cX6_weights 5 = .ok (.aload_n 0, 1) := by decide +kernel
theorem dX6_weights_6 : decode cX6_weights 6 = .ok (.getfield 185, 3) := by decide +kernel
theorem dX6_weights_9 : decode cX6_weights 9 = .ok (.if_icmp .ge 33, 3) := by decide +kernel
theorem dX6_weights_12 : decode cX6_weights 12 = .ok (.lload_n 1, 1) := by decide +kernel
theorem dX6_weights_13 : decode cX6_weights 13 = .ok (.aload_n 0, 1) := by decide +kernel
theorem dX6_weights_14 : decode cX6_weights 14 = .ok (.iload_n 3, 1) := by decide +kernel
theorem dX6_weights_15 : decode cX6_weights 15 = .ok (.invokevirtual 202, 3) := by decide +kernel
theorem dX6_weights_18 : decode cX6_weights 18 = .ok (.ifCond .eq 15, 3) := by decide +kernel
theorem dX6_weights_21 : decode cX6_weights 21 = .ok (.aload_n 0, 1) := by decide +kernel
theorem dX6_weights_22 : decode cX6_weights 22 = .ok (.getfield 7, 3) := by decide +kernel
theorem dX6_weights_25 : decode cX6_weights 25 = .ok (.bipush 53, 2) := by decide +kernel
theorem dX6_weights_27 : decode cX6_weights 27 = .ok (.iload_n 3, 1) := by decide +kernel
theorem dX6_weights_28 : decode cX6_weights 28 = .ok (.iadd, 1) := by decide +kernel
theorem dX6_weights_29 : decode cX6_weights 29 = .ok (.laload, 1) := by decide +kernel
theorem dX6_weights_30 : decode cX6_weights 30 = .ok (.goto 4, 3) := by decide +kernel
theorem dX6_weights_33 : decode cX6_weights 33 = .ok (.lconst 0, 1) := by decide +kernel
theorem dX6_weights_34 : decode cX6_weights 34 = .ok (.ladd, 1) := by decide +kernel
theorem dX6_weights_35 : decode cX6_weights 35 = .ok (.lstore_n 1, 1) := by decide +kernel
theorem dX6_weights_36 : decode cX6_weights 36 = .ok (.iinc 3 1, 3) := by decide +kernel
theorem dX6_weights_39 : decode cX6_weights 39 = .ok (.goto (-35), 3) := by decide +kernel
theorem dX6_weights_42 : decode cX6_weights 42 = .ok (.lload_n 1, 1) := by decide +kernel
theorem dX6_weights_43 : decode cX6_weights 43 = .ok (.lreturn, 1) := by decide +kernel
def gW (f : Nat → Int64) : Nat → Int64 | 0 => 0 | i + 1 => gW f i + (if f (101 + i) = -1 then f (53 + i) else 0)
set_option maxHeartbeats 4000000 in
set_option maxRecDepth 100000 in
theorem gX6_weights (l : Launch) (D : va_G) (h0 h1 : Nat) (n : Int32) (v0 : Value) (v1 : Value) (v2 : Value) (v3 : Value) (v4 : Value) (v5 : Value) (v6 : Value) (v7 : Value) (v8 : Value) (v9 : Value) (v10 : Value) (v11 : Value) (v12 : Value) (v13 : Value) (v14 : Value) (v15 : Value) (v16 : Value) (v17 : Value) (v18 : Value) (v19 : Value) (v20 : Value) (v21 : Value) (v22 : Value) (v23 : Value) (v24 : Value) (f0 : Nat → Int64) (a0 : ClassId) (hn0 : 0 ≤ n.toInt) (hn1 : n.toInt ≤ 48) : CT l yX6_weights cX6_weights 4 (some .long) { frames := 1, cells := 0, slots := 0, locals := 60 } [.ref h0] D [(h0, .inr (6, [v0, .ref h1, v1, v2, v3, v4, v5, .int n, v6, v7, v8, v9, v10, v11, v12, v13, v14, v15, v16, v17, v18, v19, v20, v21, v22, v23, v24])), (h1, .inl (a0, 609, .inr (.inl f0)))] [(a0, .long)] XN [] (el (fun _ : Unit => True) (fun _ => gW f0 n.toInt.toNat) (fun _ => []) (fun _ => []) D) 0 0 := by
  refine CT.ofR (by decide +kernel) (Nat.le_of_ble_eq_true rfl) ?_
  intro p e s m below meth c A ls hcs hP hK hD hX hA hS hl
  obtain ⟨hx, hb, hr, hml, hown, hg, hlocks, hin⟩ := hcs
  have hown : s.vm.findClass RX6 = some m.cls := hown
  have hl : lv_has ls 4 [(0, .ref h0)] := hl
  refine lv_lconst (v := 0) hx hb dX6_weights_0 (by decide) ?_
  refine lv_lstore_n (lv' := [(1, .long 0), (0, .ref h0)]) hx hb dX6_weights_1 rfl hl (by decide) rfl (fun ls hl => ?_)
  refine lv_iconst (v := 0) hx hb dX6_weights_2 (by decide) ?_
  refine lv_istore_n (lv' := [(3, .int 0), (1, .long 0), (0, .ref h0)]) hx hb dX6_weights_3 rfl hl (by decide) rfl (fun ls hl => ?_)
  obtain ⟨N, hN⟩ : ∃ N : Nat, n.toInt = N := ⟨n.toInt.toNat, by omega⟩
  have hNN : n.toInt.toNat = N := by omega
  rw [hNN]
  generalize hQ9 : MQ below _ _ s _ _ A = Q9
  have hloop : ∀ (n9 i : Nat), i + n9 = N → ∀ (H : Heap) (locs : List Loc) (ls : Array Slot), va_P D vwCl [(h0, .inr (6, [v0, .ref h1, v1, v2, v3, v4, v5, .int n, v6, v7, v8, v9, v10, v11, v12, v13, v14, v15, v16, v17, v18, v19, v20, v21, v22, v23, v24])), (h1, .inl (a0, 609, .inr (.inl f0)))] H → va_D (fun _ => True) [(h0, .inr (6, [v0, .ref h1, v1, v2, v3, v4, v5, .int n, v6, v7, v8, v9, v10, v11, v12, v13, v14, v15, v16, v17, v18, v19, v20, v21, v22, v23, v24])), (h1, .inl (a0, 609, .inr (.inl f0)))] → va_K D vwCl [(a0, .long)] s → va_S A s.heap H locs → lv_has ls 4 [(3, .int (nI i)), (1, .long (gW f0 i)), (0, .ref h0)] → W p l e { frames := 1, cells := 0, slots := 0, locals := 60 } s m #[.ref h0] below meth c H locs 0 0 Q9 (F0 m 4 ls []) := by
    intro n9
    induction n9 with
    | zero =>
      intro i hi H locs ls hP hD hK hS hl
      have hi : i = N := by omega
      subst hi
      have e1 : (nI i).toInt = i := nI_toInt (by omega)
      refine lv_iload_n hx hb dX6_weights_4 rfl (lv_at hl 0 rfl) ?_
      refine lv_aload_n hx hb dX6_weights_5 rfl (lv_at hl 2 rfl) ?_
      refine va_get (D := D) (ci := 6) (v := .int n) (C := RX6) (T := TX6) (N := 27) hx hb hg inX6 hown hK hP 0 rfl rfl 7 (by decide) (hg _ k1226) (fun _ h9 => h9) rfl dX6_weights_6 ?_
      refine lv_icmp_ge (tgt := 42) hx hb dX6_weights_9 (by decide) (fun _ => ?_) (fun c9 => absurd (Int32.le_iff_toInt_le.mpr (by omega)) c9)
      refine lv_lload_n hx hb dX6_weights_42 rfl (lv_at hl 1 rfl) ?_
      subst hQ9
      exact fl0 hx hb hr hlocks hK hS (Nat.le_of_ble_eq_true rfl) (Nat.le_of_ble_eq_true rfl) dX6_weights_43
    | succ n9 ih =>
      intro i hi H locs ls hP hD hK hS hl
      have e1 : (nI i).toInt = i := nI_toInt (by omega)
      refine lv_iload_n hx hb dX6_weights_4 rfl (lv_at hl 0 rfl) ?_
      refine lv_aload_n hx hb dX6_weights_5 rfl (lv_at hl 2 rfl) ?_
      refine va_get (D := D) (ci := 6) (v := .int n) (C := RX6) (T := TX6) (N := 27) hx hb hg inX6 hown hK hP 0 rfl rfl 7 (by decide) (hg _ k1226) (fun _ h9 => h9) rfl dX6_weights_6 ?_
      refine lv_icmp_ge (tgt := 42) hx hb dX6_weights_9 (by decide) (fun c9 => absurd (gi_le c9) (by omega)) (fun _ => ?_)
      refine lv_lload_n hx hb dX6_weights_12 rfl (lv_at hl 1 rfl) ?_
      refine lv_aload_n hx hb dX6_weights_13 rfl (lv_at hl 2 rfl) ?_
      refine lv_iload_n hx hb dX6_weights_14 rfl (lv_at hl 0 rfl) ?_
      refine cVi (n := 1) (As := [.int (nI i)]) (rest := [.long (gW f0 i)]) (wr := [(h0, .inr (6, [v0, .ref h1, v1, v2, v3, v4, v5, .int n, v6, v7, v8, v9, v10, v11, v12, v13, v14, v15, v16, v17, v18, v19, v20, v21, v22, v23, v24])), (h1, .inl (a0, 609, .inr (.inl f0)))]) (tr := [(a0, .long)]) hx hb hml hown hg okN (gX6_isPresent l D h0 h1 (nI i) v0 v1 v2 v3 v4 v5 (.int n) v6 v7 v8 v9 v10 v11 v12 v13 v14 v15 v16 v17 v18 v19 v20 v21 v22 v23 v24 f0 a0 (by omega) (by omega)) (mwV k1428 k1430 k56 k92 k1431) ⟨rfl, by decide, by decide, by decide +kernel⟩ ⟨rfl, rfl, (Nat.le_of_ble_eq_true rfl), (Nat.le_of_ble_eq_true rfl)⟩ hP hD hK hS xn [0, 1] [] [0, 1] [0] [0] rfl (by decide) rfl rfl (by decide) (by decide) rfl rfl (aNil hA hS) (fun _ _ => trivial) 0 rfl rfl rfl hl.1 rfl (Nat.le_of_ble_eq_true rfl) dX6_weights_15 ⟨(Nat.le_of_ble_eq_true rfl), (Nat.le_of_ble_eq_true rfl)⟩ (fun u H locs hφ hP hD hK hS hk => ?_)
      refine W.widen (k := 0) (n := 0) (Nat.le_of_ble_eq_true rfl) (Nat.le_of_ble_eq_true rfl) ?_
      have e2 : (101 + (nI i).toInt).toNat = 101 + i := by omega
      by_cases q : f0 (101 + i) = -1
      · refine ti 1 (if_pos (by rw [e2]; exact q)) ?_
        refine lv_if_eq (tgt := 33) hx hb dX6_weights_18 (by decide) (fun c9 => absurd c9 (by decide)) (fun _ => ?_)
        refine lv_aload_n hx hb dX6_weights_21 rfl (lv_at hl 2 rfl) ?_
        refine va_get (D := D) (ci := 6) (v := .ref h1) (C := RX6) (T := TX6) (N := 27) hx hb hg inX6 hown hK hP 0 rfl rfl 1 (by decide) (hg _ k1220) (fun _ h9 => h9) rfl dX6_weights_22 ?_
        refine lv_bipush (v := 53) hx hb dX6_weights_25 (by decide) ?_
        refine lv_iload_n hx hb dX6_weights_27 rfl (lv_at hl 0 rfl) ?_
        refine lv_iadd hx hb dX6_weights_28 ?_
        refine g_add (x := 53) (y := nI i) (by rw [(show (53 : Int32).toInt = 53 from by decide)]; omega) (by rw [(show (53 : Int32).toInt = 53 from by decide)]; omega) (fun t ht => ?_)
        rw [(show (53 : Int32).toInt = 53 from by decide)] at ht
        refine aldL hx hb hK hP 1 0 rfl rfl (53 + i) (g_cl (by omega)) (g_in (by omega) (by omega)) (v := f0 (53 + i)) rfl dX6_weights_29 ?_
        refine lv_goto (tgt := 34) hx hb dX6_weights_30 (by decide) ?_
        refine lv_ladd hx hb dX6_weights_34 ?_
        refine tl (gW f0 (i + 1)) (by show _ = gW f0 i + _; rw [if_pos q]) ?_
        refine lv_lstore_n (lv' := [(1, .long (gW f0 (i + 1))), (3, .int (nI i)), (0, .ref h0)]) hx hb dX6_weights_35 rfl hl (by decide) rfl (fun ls hl => ?_)
        refine lv_iinc (v := (nI (i + 1))) (lv' := [(3, .int (nI (i + 1))), (1, .long (gW f0 (i + 1))), (0, .ref h0)]) hx hb dX6_weights_36 hl (k := 1) rfl (nI_1 i) (by decide) rfl (fun ls hl => ?_)
        refine lv_goto (tgt := 4) hx hb dX6_weights_39 (by decide) ?_
        exact ih (i + 1) (by omega) _ _ _ hP hD hK hS hl
      · refine ti 0 (if_neg (by rw [e2]; exact q)) ?_
        refine lv_if_eq (tgt := 33) hx hb dX6_weights_18 (by decide) (fun _ => ?_) (fun c9 => absurd (by decide) c9)
        refine lv_lconst (v := 0) hx hb dX6_weights_33 (by decide) ?_
        refine lv_ladd hx hb dX6_weights_34 ?_
        refine tl (gW f0 (i + 1)) (by show _ = gW f0 i + _; rw [if_neg q]) ?_
        refine lv_lstore_n (lv' := [(1, .long (gW f0 (i + 1))), (3, .int (nI i)), (0, .ref h0)]) hx hb dX6_weights_35 rfl hl (by decide) rfl (fun ls hl => ?_)
        refine lv_iinc (v := (nI (i + 1))) (lv' := [(3, .int (nI (i + 1))), (1, .long (gW f0 (i + 1))), (0, .ref h0)]) hx hb dX6_weights_36 hl (k := 1) rfl (nI_1 i) (by decide) rfl (fun ls hl => ?_)
        refine lv_goto (tgt := 4) hx hb dX6_weights_39 (by decide) ?_
        exact ih (i + 1) (by omega) _ _ _ hP hD hK hS hl
  exact hloop N 0 (by omega) _ _ _ hP hD hK hS hl
