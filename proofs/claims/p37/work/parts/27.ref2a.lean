/-! The reference over any state: weights -/
theorem dX6_weights_0 : decode cX6_weights 0 = .ok (.lconst 0, 1) := by decide +kernel
theorem dX6_weights_1 : decode cX6_weights 1 = .ok (.lstore_n 1, 1) := by decide +kernel
theorem dX6_weights_2 : decode cX6_weights 2 = .ok (.iconst 0, 1) := by decide +kernel
theorem dX6_weights_3 : decode cX6_weights 3 = .ok (.istore_n 3, 1) := by decide +kernel
theorem dX6_weights_4 : decode cX6_weights 4 = .ok (.iload_n 3, 1) := by decide +kernel
theorem dX6_weights_5 : decode cX6_weights 5 = .ok (.aload_n 0, 1) := by decide +kernel
theorem dX6_weights_6 : decode cX6_weights 6 = .ok (.getfield 185, 3) := by decide +kernel
theorem dX6_weights_9 : decode cX6_weights 9 = .ok (.if_icmp .ge 33, 3) := by decide +kernel
theorem dX6_weights_12 : decode cX6_weights 12 = .ok (.lload_n 1, 1) := by decide +kernel
theorem dX6_weights_13 : decode cX6_weights 13 = .ok (.aload_n 0, 1) := by decide +kernel
theorem dX6_weights_14 : decode cX6_weights 14 = .ok (.iload_n 3, 1) := by decide +kernel
theorem dX6_weights_15 : decode cX6_weights 15 = .ok (.invokevirtual 202, 3) := by decide +kernel
theorem dX6_weights_18 : decode cX6_weights 18 = .ok (.ifCond .eq 15, 3) := by decide +kernel
theorem dX6_weights_21 : decode cX6_weights 21 = .ok (.aload_n 0, 1) := by decide +kernel
theorem dX6_weights_22 : decode cX6_weights 22 = .ok (.getfield 7, 3) := by decide +kernel
theorem dX6_weights_25 : decode cX6_weights 25 = .ok (.bipush 53, 2) := by decide +kernel
theorem dX6_weights_27 : decode cX6_weights 27 = .ok (.iload_n 3, 1) := by decide +kernel
theorem dX6_weights_28 : decode cX6_weights 28 = .ok (.iadd, 1) := by decide +kernel
theorem dX6_weights_29 : decode cX6_weights 29 = .ok (.laload, 1) := by decide +kernel
theorem dX6_weights_30 : decode cX6_weights 30 = .ok (.goto 4, 3) := by decide +kernel
theorem dX6_weights_33 : decode cX6_weights 33 = .ok (.lconst 0, 1) := by decide +kernel
theorem dX6_weights_34 : decode cX6_weights 34 = .ok (.ladd, 1) := by decide +kernel
theorem dX6_weights_35 : decode cX6_weights 35 = .ok (.lstore_n 1, 1) := by decide +kernel
theorem dX6_weights_36 : decode cX6_weights 36 = .ok (.iinc 3 1, 3) := by decide +kernel
theorem dX6_weights_39 : decode cX6_weights 39 = .ok (.goto (-35), 3) := by decide +kernel
theorem dX6_weights_42 : decode cX6_weights 42 = .ok (.lload_n 1, 1) := by decide +kernel
theorem dX6_weights_43 : decode cX6_weights 43 = .ok (.lreturn, 1) := by decide +kernel
set_option maxHeartbeats 4000000 in
set_option maxRecDepth 100000 in
theorem X6_weights (l : Launch) (κ : Kt) (σ0 : Gh) (this : Nat) (t_this : zk σ0 this 20) (h0 : RI κ σ0 this) : TC l yX6_weights cX6_weights 4 (some .long) 1 21 [.ref this] κ σ0 (tql κ fE σ0 (fun (r : Int64) (τ : Gh) => (1 ≤ r.toInt) ∧ (r.toInt ≤ 20000))) := by
  refine TC.of fE (by decide +kernel) (Nat.le_of_ble_eq_true rfl) ?_
  intro p e s m below meth c ls hcs hK hX hT hl
  obtain ⟨hx, hb, hr, hml, hown, hg, hlocks, hin⟩ := hcs
  have hown : s.vm.findClass RX6 = some m.cls := hown
  have hl : lv_has ls 4 [(0, .ref this)] := hl
  have hT0 := hT
  have n0 : (0 : Int32).toInt = 0 := by decide
  have n53 : (53 : Int32).toInt = 53 := by decide
  have j0 : (0 : Int64).toInt = 0 := by decide
  generalize hQ9 : tQ _ _ _ _ _ _ = Q9
  obtain ⟨rW, erW⟩ : ∃ z, kR κ this 1 = z := ⟨_, rfl⟩
  have trW : zk σ0 rW 21 := by rw [← erW]; exact h0.1.2.1
  obtain ⟨rP, erP⟩ : ∃ z, kR κ this 5 = z := ⟨_, rfl⟩
  have trP : zk σ0 rP 25 := by rw [← erP]; exact h0.1.2.2.2.2
  have hB0 := h0.b
  rw [erW] at hB0
  have hW := h0.2.1
  rw [erW] at hW
  have hP := h0.2.2.1
  rw [erP] at hP
  have hrN : (rN σ0 this : Int) = (zI σ0 this 7).toInt := by unfold rN; omega
  refine lv_lconst (v := 0) hx hb dX6_weights_0 (by decide) ?_
  refine lv_lstore_n (lv' := [(1, .long 0), (0, .ref this)]) hx hb dX6_weights_1 rfl hl (by decide) rfl (fun ls hl => ?_)
  refine lv_iconst (v := 0) hx hb dX6_weights_2 (by decide) ?_
  refine lv_istore_n (lv' := [(3, .int 0), (1, .long 0), (0, .ref this)]) hx hb dX6_weights_3 rfl hl (by decide) rfl (fun ls hl => ?_)
  have loop4 : ∀ (n9 : Nat) (k : Int32) (sm : Int64) (H : Heap) (locs : List Loc) (sg : Gh) (ls : Array Slot), TS κ fE σ0 sg s H locs → (0 ≤ k.toInt) → (k.toInt ≤ (zI σ0 this 7).toInt) → (sm.toInt = fsum (ix k) (pt (rlf (zJ σ0 rW)) (rwt (zJ σ0 rW)))) → lv_has ls 4 [(3, .int k), (1, .long sm), (0, .ref this)] → ((zI σ0 this 7).toInt - k.toInt) < n9 → tW p l e 1 21 κ s m #[.ref this] below meth c H locs Q9 (F0 m 4 ls []) := by
    intro n9
    induction n9 with
    | zero =>
      intro k sm H locs sg ls hT q1 q2 q3 hl hm9
      exfalso
      omega
    | succ n9 ih9 =>
      have ih4 := ih9
      clear ih9
      intro k sm H locs s1 ls hT q1 q2 q3 hl hm9
      refine lv_iload_n hx hb dX6_weights_4 rfl (lv_at hl 0 rfl) ?_
      refine lv_aload_n hx hb dX6_weights_5 rfl (lv_at hl 2 rfl) ?_
      obtain ⟨v2, ev2⟩ : ∃ zz9 : Int32, zI σ0 this 7 = zz9 := ⟨_, rfl⟩
      have qv2 : v2.toInt = (zI σ0 this 7).toInt := by rw [ev2]
      refine va_get (D := κ.1) (ci := 6) (v := .int (zI s1 this 7)) (C := RX6) (T := TX6) (N := 27) hx hb hg inX6 hown hK (hT.o20 (hT.k t_this (by decide))).one 0 rfl rfl 7 (by decide) (hg _ k1226) (fun _ h9 => h9) rfl dX6_weights_6 ?_
      rw [(hT.eI t_this (by decide) rfl ev2)]
      refine lv_icmp_ge (tgt := 42) hx hb dX6_weights_9 (by decide) (fun c9 => ?_) (fun c9 => ?_)
      · have c1 := gi_le c9
        refine lv_lload_n hx hb dX6_weights_42 rfl (lv_at hl 1 rfl) ?_
        have b1 : ix k = rN σ0 this := by unfold ix; omega
        rw [b1] at q3
        have b2 := fsum_one (k := 0) (pt_nn hW) (by omega)
        have b3 := hW.f.2.2.2.2.2.1
        have b4 := hW.one (k := 0) (by omega) hW.f.2.1
        have b5 : pt (rlf (zJ σ0 rW)) (rwt (zJ σ0 rW)) 0 = rwt (zJ σ0 rW) 0 := by unfold pt; rw [if_pos hW.f.2.1]
        subst hQ9
        exact t_l hx hb hr hlocks hT ⟨by omega, by omega⟩ dX6_weights_43
      · have c2 := gi_nle c9
        refine lv_lload_n hx hb dX6_weights_12 rfl (lv_at hl 1 rfl) ?_
        refine lv_aload_n hx hb dX6_weights_13 rfl (lv_at hl 2 rfl) ?_
        refine lv_iload_n hx hb dX6_weights_14 rfl (lv_at hl 0 rfl) ?_
        have K3 : zI s1 this 7 = zI σ0 this 7 := hT.eI t_this (by decide) rfl rfl
        have K3n : (zI s1 this 7).toInt = (zI σ0 this 7).toInt := by rw [K3]
        have J4 : zJ s1 rW = zJ σ0 rW := funext fun k => hT.eJ trW (by decide) rfl rfl
        have J4n : (zJ s1 (kR κ this 1) 4).toInt = (zJ σ0 rW 4).toInt := by rw [erW, J4]
        have P5 : zI s1 rP = zI σ0 rP := funext fun k => hT.eI trP (by decide) rfl rfl
        have R6 : RI κ s1 this := h0.ext hT.2.2.1 ⟨rfl, rfl, fun _ => rfl, fun _ => rfl, fun _ => rfl, fun _ => rfl⟩
        have hTo := hT
        refine tVi (n := 1) (As := [.int k]) (rest := [.long sm]) hx hb hml hown hg hT hK hX (X6_isPresent l κ s1 this k  (hT.k t_this (by decide)) R6 (by omega) (by omega)) (fun _ _ h => h) (mwV k1432 k1434 k56 k92 k1435) ⟨rfl, by decide, by decide, by decide +kernel⟩ ⟨(Nat.le_of_ble_eq_true rfl), (Nat.le_of_ble_eq_true rfl)⟩ (hT.o20 (hT.k t_this (by decide))) rfl rfl hl.1 rfl (Nat.le_of_ble_eq_true rfl) dX6_weights_15 zroom.rf (fun x7 s8 H locs hφ hEs8 hT => ?_)
        obtain ⟨f9, f10⟩ := hφ
        have K11 : zI s8 this 7 = zI σ0 this 7 := hT.eI t_this (by decide) rfl rfl
        have K11n : (zI s8 this 7).toInt = (zI σ0 this 7).toInt := by rw [K11]
        have J12 : zJ s8 rW = zJ σ0 rW := funext fun k => hT.eJ trW (by decide) rfl rfl
        have J12n : (zJ s8 (kR κ this 1) 4).toInt = (zJ σ0 rW 4).toInt := by rw [erW, J12]
        have P13 : zI s8 rP = zI σ0 rP := funext fun k => hT.eI trP (by decide) rfl rfl
        try simp only [erW, erP, ix_0, ix_1, ix_2, ix_3, ix_4, ix_5, ix_6, ix_7, ix_8, ix_9, K3, J4, P5, K11, J12, P13] at f9
        have ik : (ix k : Int) = k.toInt := by unfold ix; omega
        have a1 := fsum_le (N := rN σ0 this) (M := ix k + 1) (pt_nn hW) (by omega)
        have a2 := fsum_ge (N := ix k) (f := pt (rlf (zJ σ0 rW)) (rwt (zJ σ0 rW))) (fun j hj => pt_nn hW j (by omega))
        have a6 : rlf (zJ σ0 rW) (ix k) = -1 → 1 ≤ rwt (zJ σ0 rW) (ix k) := fun q9 => (hW.one (by omega) q9).1
        have a3 := hW.f.2.2.2.2.2.1
        have a4 : rlf (zJ σ0 rW) (ix k) = -1 → fsum (ix k + 1) (pt (rlf (zJ σ0 rW)) (rwt (zJ σ0 rW))) = fsum (ix k) (pt (rlf (zJ σ0 rW)) (rwt (zJ σ0 rW))) + rwt (zJ σ0 rW) (ix k) := fun q9 => by rw [fsum]; unfold pt; rw [if_pos q9]
        have a5 : rlf (zJ σ0 rW) (ix k) ≠ -1 → fsum (ix k + 1) (pt (rlf (zJ σ0 rW)) (rwt (zJ σ0 rW))) = fsum (ix k) (pt (rlf (zJ σ0 rW)) (rwt (zJ σ0 rW))) := fun q9 => by rw [fsum]; unfold pt; rw [if_neg q9]; omega
        refine lv_if_eq (tgt := 33) hx hb dX6_weights_18 (by decide) (fun c9 => ?_) (fun c9 => ?_)
        · have c3 := gi_eq c9
          refine lv_lconst (v := 0) hx hb dX6_weights_33 (by decide) ?_
          refine lv_ladd hx hb dX6_weights_34 ?_
          refine g_addl (by omega) (by omega) (fun t14 ht14 => ?_)
          refine lv_lstore_n (lv' := [(1, .long t14), (3, .int k), (0, .ref this)]) hx hb dX6_weights_35 rfl hl (by decide) rfl (fun ls hl => ?_)
          obtain ⟨t15, qt15⟩ : ∃ zz9 : Int32, k + Int32.ofInt 1 = zz9 := ⟨_, rfl⟩
          refine lv_iinc (v := t15) (lv' := [(3, .int t15), (1, .long t14), (0, .ref this)]) hx hb dX6_weights_36 hl (k := 1) rfl qt15 (by decide) rfl (fun ls hl => ?_)
          have ht15 : t15.toInt = k.toInt + 1 := by rw [← qt15]; exact v_addi rfl (show (Int32.ofInt 1).toInt = 1 from by decide) (by omega) (by omega)
          refine lv_goto (tgt := 4) hx hb dX6_weights_39 (by decide) ?_
          exact ih4 t15 t14 _ _ _ _ hT  (by omega) (by omega) (by rw [show ix t15 = ix k + 1 from by unfold ix; omega]; omega) hl (by omega)
        · have c4 := gi_ne c9
          refine lv_aload_n hx hb dX6_weights_21 rfl (lv_at hl 2 rfl) ?_
          refine va_get (D := κ.1) (ci := 6) (v := .ref (kR κ this 1)) (C := RX6) (T := TX6) (N := 27) hx hb hg inX6 hown hK (hT.o20 (hT.k t_this (by decide))).one 0 rfl rfl 1 (by decide) (hg _ k1220) (fun _ h9 => h9) rfl dX6_weights_22 ?_
          rw [erW]
          refine lv_bipush (v := 53) hx hb dX6_weights_25 (by decide) ?_
          refine lv_iload_n hx hb dX6_weights_27 rfl (lv_at hl 0 rfl) ?_
          refine lv_iadd hx hb dX6_weights_28 ?_
          first | refine g_add (by omega) (by omega) (fun t16 ht16 => ?_) | refine lv_topi (fun t16 ht16 => ?_)
          refine va_lald hx hb hK (hT.o21 (hT.k trW (by decide))).one 0 1 rfl rfl (g_in (by omega) (by omega)) dX6_weights_29 ?_
          refine lv_topl (fun t17 ht17 => ?_)
          have xt17 : rwt (zJ s8 rW) (ix k) = t17.toInt := by rw [ht17]; exact congrArg (fun q9 => (zJ s8 rW q9).toInt) (show 53 + ix k = ix t16 from by unfold ix; omega)
          try simp only [K11, J12, P13] at xt17
          refine lv_goto (tgt := 34) hx hb dX6_weights_30 (by decide) ?_
          refine lv_ladd hx hb dX6_weights_34 ?_
          refine g_addl (by omega) (by omega) (fun t18 ht18 => ?_)
          refine lv_lstore_n (lv' := [(1, .long t18), (3, .int k), (0, .ref this)]) hx hb dX6_weights_35 rfl hl (by decide) rfl (fun ls hl => ?_)
          obtain ⟨t19, qt19⟩ : ∃ zz9 : Int32, k + Int32.ofInt 1 = zz9 := ⟨_, rfl⟩
          refine lv_iinc (v := t19) (lv' := [(3, .int t19), (1, .long t18), (0, .ref this)]) hx hb dX6_weights_36 hl (k := 1) rfl qt19 (by decide) rfl (fun ls hl => ?_)
          have ht19 : t19.toInt = k.toInt + 1 := by rw [← qt19]; exact v_addi rfl (show (Int32.ofInt 1).toInt = 1 from by decide) (by omega) (by omega)
          refine lv_goto (tgt := 4) hx hb dX6_weights_39 (by decide) ?_
          exact ih4 t19 t18 _ _ _ _ hT  (by omega) (by omega) (by rw [show ix t19 = ix k + 1 from by unfold ix; omega]; omega) hl (by omega)
  exact loop4 (((zI σ0 this 7).toInt - (0 : Int32).toInt).toNat + 1) 0 0 _ _ _ _ hT  (by omega) (by omega) (by rw [ix_0]; rfl) hl (by omega)
