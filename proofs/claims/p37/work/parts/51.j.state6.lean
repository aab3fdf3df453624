/-! States with their numbers: the start, the bits -/
theorem sub_fE_fBv : ∀ t k, fBv t k = false → fE t k = false := by
  intro t k h
  simp [fE, fBv] at h ⊢ <;> omega
theorem sub_fX_fBv : ∀ t k, fBv t k = false → fX t k = false := by
  intro t k h
  simp [fX, fBv] at h ⊢ <;> omega
set_option maxHeartbeats 4000000 in
set_option maxRecDepth 100000 in
theorem X0v_firstWeight (l : Launch) (κ : Kt) (σ0 : Gh) (this : Nat) (i : Int32) {N : Nat} {P : Nat → Int} {k : Nat} (t_this : zk σ0 this 4) (h0 : (zI σ0 this 2).toInt = (N : Int)) (h1 : ∀ k, k < N → (zI σ0 (kR κ this 0) k).toInt = P k) (h2 : PLI N P) (h3 : i.toInt = k) (h4 : k < N) (h5 : 2 ≤ N) : TC l yX0_firstWeight cX0_firstWeight 4 (some .int) 0 0 [.ref this, .int i] κ σ0 (tqi κ fE σ0 (fun (r : Int32) (τ : Gh) => (r.toInt = (if k = N - 1 then P k else P (k + 1)) - (if k = 0 then P 0 else P (k - 1))))) := by
  refine TC.of fE (by decide +kernel) (Nat.le_of_ble_eq_true rfl) ?_
  intro p e s m below meth c ls hcs hK hX hT hl
  obtain ⟨hx, hb, hr, hml, hown, hg, hlocks, hin⟩ := hcs
  have hown : s.vm.findClass RX0 = some m.cls := hown
  have hl : lv_has ls 4 [(0, .ref this), (1, .int i)] := hl
  have hT0 := hT
  have n0 : (0 : Int32).toInt = 0 := by decide
  have n1 : (1 : Int32).toInt = 1 := by decide
  have i_lo := Int32.le_toInt i
  have i_hi := Int32.toInt_lt i
  generalize hQ9 : tQ _ _ _ _ _ _ = Q9
  obtain ⟨rp, erp⟩ : ∃ z, kR κ this 0 = z := ⟨_, rfl⟩
  have trp : zk σ0 rp 8 := by rw [← erp]; exact hT0.ref t_this (by decide) (by decide) (by decide)
  have hPS := h1
  rw [erp] at hPS
  have bN := (hT0.P t_this (by decide)).1
  have bN2 := bN.2
  refine lv_iload_n hx hb dX0_firstWeight_0 rfl (lv_at hl 1 rfl) ?_
  refine lv_if_le (tgt := 10) hx hb dX0_firstWeight_1 (by decide) (fun c9 => ?_) (fun c9 => ?_)
  · have c1 := gi_le c9
    refine lv_iconst (v := 0) hx hb dX0_firstWeight_10 (by decide) ?_
    refine lv_istore_n (lv' := [(2, .int 0), (0, .ref this), (1, .int i)]) hx hb dX0_firstWeight_11 rfl hl (by decide) rfl (fun ls hl => ?_)
    refine lv_iload_n hx hb dX0_firstWeight_12 rfl (lv_at hl 2 rfl) ?_
    refine lv_aload_n hx hb dX0_firstWeight_13 rfl (lv_at hl 1 rfl) ?_
    obtain ⟨v1, ev1⟩ : ∃ zz9 : Int32, zI σ0 this 2 = zz9 := ⟨_, rfl⟩
    have qv1 : v1.toInt = (zI σ0 this 2).toInt := by rw [ev1]
    have b2 := (hT.P (hT.k t_this (by decide)) (by decide)).1
    rw [(hT.eI t_this (by decide) rfl ev1)] at b2
    have b2l := b2.1
    have b2h := b2.2
    refine va_get (D := κ.1) (ci := 0) (v := .int (zI σ0 this 2)) (C := RX0) (T := TX0) (N := 7) hx hb hg inX0 hown hK (hT.o4 (hT.k t_this (by decide))).one 0 rfl rfl 2 (by decide) (hg _ k161) (fun _ h9 => h9) rfl dX0_firstWeight_14 ?_
    rw [(hT.eI t_this (by decide) rfl ev1)]
    refine lv_iconst (v := 1) hx hb dX0_firstWeight_17 (by decide) ?_
    refine lv_isub hx hb dX0_firstWeight_18 ?_
    first | refine g_sub (by omega) (by omega) (fun t3 ht3 => ?_) | refine lv_topi (fun t3 ht3 => ?_)
    refine lv_icmp_ge (tgt := 28) hx hb dX0_firstWeight_19 (by decide) (fun c9 => ?_) (fun c9 => ?_)
    · have c2 := gi_le c9
      refine lv_aload_n hx hb dX0_firstWeight_28 rfl (lv_at hl 1 rfl) ?_
      refine va_get (D := κ.1) (ci := 0) (v := .int (zI σ0 this 2)) (C := RX0) (T := TX0) (N := 7) hx hb hg inX0 hown hK (hT.o4 (hT.k t_this (by decide))).one 0 rfl rfl 2 (by decide) (hg _ k161) (fun _ h9 => h9) rfl dX0_firstWeight_29 ?_
      rw [(hT.eI t_this (by decide) rfl ev1)]
      refine lv_iconst (v := 1) hx hb dX0_firstWeight_32 (by decide) ?_
      refine lv_isub hx hb dX0_firstWeight_33 ?_
      first | refine g_sub (by omega) (by omega) (fun t4 ht4 => ?_) | refine lv_topi (fun t4 ht4 => ?_)
      refine lv_istore_n (lv' := [(3, .int t4), (2, .int 0), (0, .ref this), (1, .int i)]) hx hb dX0_firstWeight_34 rfl hl (by decide) rfl (fun ls hl => ?_)
      refine lv_aload_n hx hb dX0_firstWeight_35 rfl (lv_at hl 2 rfl) ?_
      refine va_get (D := κ.1) (ci := 0) (v := .ref (kR κ this 0)) (C := RX0) (T := TX0) (N := 7) hx hb hg inX0 hown hK (hT.o4 (hT.k t_this (by decide))).one 0 rfl rfl 0 (by decide) (hg _ k154) (fun _ h9 => h9) rfl dX0_firstWeight_36 ?_
      rw [erp]
      refine lv_iload_n hx hb dX0_firstWeight_39 rfl (lv_at hl 0 rfl) ?_
      refine va_iald hx hb hK (hT.o8 (hT.k trp (by decide))).one 0 0 rfl rfl (g_in (by omega) (by omega)) dX0_firstWeight_40 ?_
      refine lv_topi (fun t5 ht5 => ?_)
      have yt5 : t5.toInt = P (k) := by rw [ht5, ixc, show ix t4 = k from ixof (by omega)]; exact hPS (k) (by omega)
      have bt5 := (h2 (k) (by omega)).1
      have xt5 : t5.toInt = (if k = N - 1 then P k else P (k + 1)) := by rw [if_pos (by omega)]; exact yt5
      refine lv_aload_n hx hb dX0_firstWeight_41 rfl (lv_at hl 2 rfl) ?_
      refine va_get (D := κ.1) (ci := 0) (v := .ref (kR κ this 0)) (C := RX0) (T := TX0) (N := 7) hx hb hg inX0 hown hK (hT.o4 (hT.k t_this (by decide))).one 0 rfl rfl 0 (by decide) (hg _ k154) (fun _ h9 => h9) rfl dX0_firstWeight_42 ?_
      rw [erp]
      refine lv_iload_n hx hb dX0_firstWeight_45 rfl (lv_at hl 1 rfl) ?_
      refine va_iald hx hb hK (hT.o8 (hT.k trp (by decide))).one 0 0 rfl rfl (g_in (by omega) (by omega)) dX0_firstWeight_46 ?_
      refine lv_topi (fun t6 ht6 => ?_)
      have yt6 : t6.toInt = P (0) := by rw [ht6, ixc, show ix 0 = 0 from ixof (by omega)]; exact hPS (0) (by omega)
      have bt6 := (h2 (0) (by omega)).1
      have xt6 : t6.toInt = (if k = 0 then P 0 else P (k - 1)) := by rw [if_pos (by omega)]; exact yt6
      refine lv_isub hx hb dX0_firstWeight_47 ?_
      first | refine g_sub (by omega) (by omega) (fun t7 ht7 => ?_) | refine lv_topi (fun t7 ht7 => ?_)
      subst hQ9
      exact t_i hx hb hr hlocks hT (by rw [← xt5, ← xt6]; omega) dX0_firstWeight_48
    · have c3 := gi_nle c9
      refine lv_iload_n hx hb dX0_firstWeight_22 rfl (lv_at hl 2 rfl) ?_
      refine lv_iconst (v := 1) hx hb dX0_firstWeight_23 (by decide) ?_
      refine lv_iadd hx hb dX0_firstWeight_24 ?_
      first | refine g_add (by omega) (by omega) (fun t8 ht8 => ?_) | refine lv_topi (fun t8 ht8 => ?_)
      refine lv_goto (tgt := 34) hx hb dX0_firstWeight_25 (by decide) ?_
      refine lv_istore_n (lv' := [(3, .int t8), (2, .int 0), (0, .ref this), (1, .int i)]) hx hb dX0_firstWeight_34 rfl hl (by decide) rfl (fun ls hl => ?_)
      refine lv_aload_n hx hb dX0_firstWeight_35 rfl (lv_at hl 2 rfl) ?_
      refine va_get (D := κ.1) (ci := 0) (v := .ref (kR κ this 0)) (C := RX0) (T := TX0) (N := 7) hx hb hg inX0 hown hK (hT.o4 (hT.k t_this (by decide))).one 0 rfl rfl 0 (by decide) (hg _ k154) (fun _ h9 => h9) rfl dX0_firstWeight_36 ?_
      rw [erp]
      refine lv_iload_n hx hb dX0_firstWeight_39 rfl (lv_at hl 0 rfl) ?_
      refine va_iald hx hb hK (hT.o8 (hT.k trp (by decide))).one 0 0 rfl rfl (g_in (by omega) (by omega)) dX0_firstWeight_40 ?_
      refine lv_topi (fun t9 ht9 => ?_)
      have yt9 : t9.toInt = P (k + 1) := by rw [ht9, ixc, show ix t8 = k + 1 from ixof (by omega)]; exact hPS (k + 1) (by omega)
      have bt9 := (h2 (k + 1) (by omega)).1
      have xt9 : t9.toInt = (if k = N - 1 then P k else P (k + 1)) := by rw [if_neg (by omega)]; exact yt9
      refine lv_aload_n hx hb dX0_firstWeight_41 rfl (lv_at hl 2 rfl) ?_
      refine va_get (D := κ.1) (ci := 0) (v := .ref (kR κ this 0)) (C := RX0) (T := TX0) (N := 7) hx hb hg inX0 hown hK (hT.o4 (hT.k t_this (by decide))).one 0 rfl rfl 0 (by decide) (hg _ k154) (fun _ h9 => h9) rfl dX0_firstWeight_42 ?_
      rw [erp]
      refine lv_iload_n hx hb dX0_firstWeight_45 rfl (lv_at hl 1 rfl) ?_
      refine va_iald hx hb hK (hT.o8 (hT.k trp (by decide))).one 0 0 rfl rfl (g_in (by omega) (by omega)) dX0_firstWeight_46 ?_
      refine lv_topi (fun t10 ht10 => ?_)
      have yt10 : t10.toInt = P (0) := by rw [ht10, ixc, show ix 0 = 0 from ixof (by omega)]; exact hPS (0) (by omega)
      have bt10 := (h2 (0) (by omega)).1
      have xt10 : t10.toInt = (if k = 0 then P 0 else P (k - 1)) := by rw [if_pos (by omega)]; exact yt10
      refine lv_isub hx hb dX0_firstWeight_47 ?_
      first | refine g_sub (by omega) (by omega) (fun t11 ht11 => ?_) | refine lv_topi (fun t11 ht11 => ?_)
      subst hQ9
      exact t_i hx hb hr hlocks hT (by rw [← xt9, ← xt10]; omega) dX0_firstWeight_48
  · have c4 := gi_nle c9
    refine lv_iload_n hx hb dX0_firstWeight_4 rfl (lv_at hl 1 rfl) ?_
    refine lv_iconst (v := 1) hx hb dX0_firstWeight_5 (by decide) ?_
    refine lv_isub hx hb dX0_firstWeight_6 ?_
    first | refine g_sub (by omega) (by omega) (fun t12 ht12 => ?_) | refine lv_topi (fun t12 ht12 => ?_)
    refine lv_goto (tgt := 11) hx hb dX0_firstWeight_7 (by decide) ?_
    refine lv_istore_n (lv' := [(2, .int t12), (0, .ref this), (1, .int i)]) hx hb dX0_firstWeight_11 rfl hl (by decide) rfl (fun ls hl => ?_)
    refine lv_iload_n hx hb dX0_firstWeight_12 rfl (lv_at hl 2 rfl) ?_
    refine lv_aload_n hx hb dX0_firstWeight_13 rfl (lv_at hl 1 rfl) ?_
    obtain ⟨v13, ev13⟩ : ∃ zz9 : Int32, zI σ0 this 2 = zz9 := ⟨_, rfl⟩
    have qv13 : v13.toInt = (zI σ0 this 2).toInt := by rw [ev13]
    have b14 := (hT.P (hT.k t_this (by decide)) (by decide)).1
    rw [(hT.eI t_this (by decide) rfl ev13)] at b14
    have b14l := b14.1
    have b14h := b14.2
    refine va_get (D := κ.1) (ci := 0) (v := .int (zI σ0 this 2)) (C := RX0) (T := TX0) (N := 7) hx hb hg inX0 hown hK (hT.o4 (hT.k t_this (by decide))).one 0 rfl rfl 2 (by decide) (hg _ k161) (fun _ h9 => h9) rfl dX0_firstWeight_14 ?_
    rw [(hT.eI t_this (by decide) rfl ev13)]
    refine lv_iconst (v := 1) hx hb dX0_firstWeight_17 (by decide) ?_
    refine lv_isub hx hb dX0_firstWeight_18 ?_
    first | refine g_sub (by omega) (by omega) (fun t15 ht15 => ?_) | refine lv_topi (fun t15 ht15 => ?_)
    refine lv_icmp_ge (tgt := 28) hx hb dX0_firstWeight_19 (by decide) (fun c9 => ?_) (fun c9 => ?_)
    · have c5 := gi_le c9
      refine lv_aload_n hx hb dX0_firstWeight_28 rfl (lv_at hl 1 rfl) ?_
      refine va_get (D := κ.1) (ci := 0) (v := .int (zI σ0 this 2)) (C := RX0) (T := TX0) (N := 7) hx hb hg inX0 hown hK (hT.o4 (hT.k t_this (by decide))).one 0 rfl rfl 2 (by decide) (hg _ k161) (fun _ h9 => h9) rfl dX0_firstWeight_29 ?_
      rw [(hT.eI t_this (by decide) rfl ev13)]
      refine lv_iconst (v := 1) hx hb dX0_firstWeight_32 (by decide) ?_
      refine lv_isub hx hb dX0_firstWeight_33 ?_
      first | refine g_sub (by omega) (by omega) (fun t16 ht16 => ?_) | refine lv_topi (fun t16 ht16 => ?_)
      refine lv_istore_n (lv' := [(3, .int t16), (2, .int t12), (0, .ref this), (1, .int i)]) hx hb dX0_firstWeight_34 rfl hl (by decide) rfl (fun ls hl => ?_)
      refine lv_aload_n hx hb dX0_firstWeight_35 rfl (lv_at hl 2 rfl) ?_
      refine va_get (D := κ.1) (ci := 0) (v := .ref (kR κ this 0)) (C := RX0) (T := TX0) (N := 7) hx hb hg inX0 hown hK (hT.o4 (hT.k t_this (by decide))).one 0 rfl rfl 0 (by decide) (hg _ k154) (fun _ h9 => h9) rfl dX0_firstWeight_36 ?_
      rw [erp]
      refine lv_iload_n hx hb dX0_firstWeight_39 rfl (lv_at hl 0 rfl) ?_
      refine va_iald hx hb hK (hT.o8 (hT.k trp (by decide))).one 0 0 rfl rfl (g_in (by omega) (by omega)) dX0_firstWeight_40 ?_
      refine lv_topi (fun t17 ht17 => ?_)
      have yt17 : t17.toInt = P (k) := by rw [ht17, ixc, show ix t16 = k from ixof (by omega)]; exact hPS (k) (by omega)
      have bt17 := (h2 (k) (by omega)).1
      have xt17 : t17.toInt = (if k = N - 1 then P k else P (k + 1)) := by rw [if_pos (by omega)]; exact yt17
      refine lv_aload_n hx hb dX0_firstWeight_41 rfl (lv_at hl 2 rfl) ?_
      refine va_get (D := κ.1) (ci := 0) (v := .ref (kR κ this 0)) (C := RX0) (T := TX0) (N := 7) hx hb hg inX0 hown hK (hT.o4 (hT.k t_this (by decide))).one 0 rfl rfl 0 (by decide) (hg _ k154) (fun _ h9 => h9) rfl dX0_firstWeight_42 ?_
      rw [erp]
      refine lv_iload_n hx hb dX0_firstWeight_45 rfl (lv_at hl 1 rfl) ?_
      refine va_iald hx hb hK (hT.o8 (hT.k trp (by decide))).one 0 0 rfl rfl (g_in (by omega) (by omega)) dX0_firstWeight_46 ?_
      refine lv_topi (fun t18 ht18 => ?_)
      have yt18 : t18.toInt = P (k - 1) := by rw [ht18, ixc, show ix t12 = k - 1 from ixof (by omega)]; exact hPS (k - 1) (by omega)
      have bt18 := (h2 (k - 1) (by omega)).1
      have xt18 : t18.toInt = (if k = 0 then P 0 else P (k - 1)) := by rw [if_neg (by omega)]; exact yt18
      refine lv_isub hx hb dX0_firstWeight_47 ?_
      first | refine g_sub (by omega) (by omega) (fun t19 ht19 => ?_) | refine lv_topi (fun t19 ht19 => ?_)
      subst hQ9
      exact t_i hx hb hr hlocks hT (by rw [← xt17, ← xt18]; omega) dX0_firstWeight_48
    · have c6 := gi_nle c9
      refine lv_iload_n hx hb dX0_firstWeight_22 rfl (lv_at hl 2 rfl) ?_
      refine lv_iconst (v := 1) hx hb dX0_firstWeight_23 (by decide) ?_
      refine lv_iadd hx hb dX0_firstWeight_24 ?_
      first | refine g_add (by omega) (by omega) (fun t20 ht20 => ?_) | refine lv_topi (fun t20 ht20 => ?_)
      refine lv_goto (tgt := 34) hx hb dX0_firstWeight_25 (by decide) ?_
      refine lv_istore_n (lv' := [(3, .int t20), (2, .int t12), (0, .ref this), (1, .int i)]) hx hb dX0_firstWeight_34 rfl hl (by decide) rfl (fun ls hl => ?_)
      refine lv_aload_n hx hb dX0_firstWeight_35 rfl (lv_at hl 2 rfl) ?_
      refine va_get (D := κ.1) (ci := 0) (v := .ref (kR κ this 0)) (C := RX0) (T := TX0) (N := 7) hx hb hg inX0 hown hK (hT.o4 (hT.k t_this (by decide))).one 0 rfl rfl 0 (by decide) (hg _ k154) (fun _ h9 => h9) rfl dX0_firstWeight_36 ?_
      rw [erp]
      refine lv_iload_n hx hb dX0_firstWeight_39 rfl (lv_at hl 0 rfl) ?_
      refine va_iald hx hb hK (hT.o8 (hT.k trp (by decide))).one 0 0 rfl rfl (g_in (by omega) (by omega)) dX0_firstWeight_40 ?_
      refine lv_topi (fun t21 ht21 => ?_)
      have yt21 : t21.toInt = P (k + 1) := by rw [ht21, ixc, show ix t20 = k + 1 from ixof (by omega)]; exact hPS (k + 1) (by omega)
      have bt21 := (h2 (k + 1) (by omega)).1
      have xt21 : t21.toInt = (if k = N - 1 then P k else P (k + 1)) := by rw [if_neg (by omega)]; exact yt21
      refine lv_aload_n hx hb dX0_firstWeight_41 rfl (lv_at hl 2 rfl) ?_
      refine va_get (D := κ.1) (ci := 0) (v := .ref (kR κ this 0)) (C := RX0) (T := TX0) (N := 7) hx hb hg inX0 hown hK (hT.o4 (hT.k t_this (by decide))).one 0 rfl rfl 0 (by decide) (hg _ k154) (fun _ h9 => h9) rfl dX0_firstWeight_42 ?_
      rw [erp]
      refine lv_iload_n hx hb dX0_firstWeight_45 rfl (lv_at hl 1 rfl) ?_
      refine va_iald hx hb hK (hT.o8 (hT.k trp (by decide))).one 0 0 rfl rfl (g_in (by omega) (by omega)) dX0_firstWeight_46 ?_
      refine lv_topi (fun t22 ht22 => ?_)
      have yt22 : t22.toInt = P (k - 1) := by rw [ht22, ixc, show ix t12 = k - 1 from ixof (by omega)]; exact hPS (k - 1) (by omega)
      have bt22 := (h2 (k - 1) (by omega)).1
      have xt22 : t22.toInt = (if k = 0 then P 0 else P (k - 1)) := by rw [if_neg (by omega)]; exact yt22
      refine lv_isub hx hb dX0_firstWeight_47 ?_
      first | refine g_sub (by omega) (by omega) (fun t23 ht23 => ?_) | refine lv_topi (fun t23 ht23 => ?_)
      subst hQ9
      exact t_i hx hb hr hlocks hT (by rw [← xt21, ← xt22]; omega) dX0_firstWeight_48
set_option maxHeartbeats 4000000 in
set_option maxRecDepth 100000 in
theorem X1v_begin (l : Launch) (κ : Kt) (σ0 : Gh) (this : Nat) {N : Nat} {P V : Nat → Int} (t_this : zk σ0 this 3) (h0 : SRC κ σ0 this N P) (h1 : PLI N P) (h2 : ∀ k, k < N → (zI σ0 (kR κ (kR κ this 0) 1) k).toInt = V k) (h3 : ∀ k, k < N → -9999 ≤ V k ∧ V k ≤ 9999) (h4 : DW κ this) : TC l yX1_begin cX1_begin 2 none 2 50 [.ref this] κ σ0 (tqv κ fBv σ0 (fun (τ : Gh) => (SST κ τ this N P (ini N P V)))) := by
  refine TC.of fBv (by decide +kernel) (Nat.le_of_ble_eq_true rfl) ?_
  intro p e s m below meth c ls hcs hK hX hT hl
  obtain ⟨hx, hb, hr, hml, hown, hg, hlocks, hin⟩ := hcs
  have hown : s.vm.findClass RX1 = some m.cls := hown
  have hl : lv_has ls 2 [(0, .ref this)] := hl
  have hT0 := hT
  have nm1 : ((-1) : Int32).toInt = (-1) := by decide
  have n0 : (0 : Int32).toInt = 0 := by decide
  have j0 : (0 : Int64).toInt = 0 := by decide
  generalize hQ9 : tQ _ _ _ _ _ _ = Q9
  obtain ⟨src, esrc⟩ : ∃ z, kR κ this 0 = z := ⟨_, rfl⟩
  have tsrc : zk σ0 src 4 := by rw [← esrc]; exact hT0.ref t_this (by decide) (by decide) (by decide)
  have bsrc := (hT0.P tsrc (by decide)).1
  have bsrcl := bsrc.1
  have bsrch := bsrc.2
  obtain ⟨rp, erp⟩ : ∃ z, kR κ src 0 = z := ⟨_, rfl⟩
  have trp : zk σ0 rp 8 := by rw [← erp]; exact hT0.ref tsrc (by decide) (by decide) (by decide)
  obtain ⟨ro, ero⟩ : ∃ z, kR κ src 1 = z := ⟨_, rfl⟩
  have tro : zk σ0 ro 16 := by rw [← ero]; exact hT0.ref tsrc (by decide) (by decide) (by decide)
  obtain ⟨rv, erv⟩ : ∃ z, kR κ this 1 = z := ⟨_, rfl⟩
  have trv : zk σ0 rv 10 := by rw [← erv]; exact hT0.ref t_this (by decide) (by decide) (by decide)
  obtain ⟨rg, erg⟩ : ∃ z, kR κ this 2 = z := ⟨_, rfl⟩
  have trg : zk σ0 rg 9 := by rw [← erg]; exact hT0.ref t_this (by decide) (by decide) (by decide)
  obtain ⟨rs, ers⟩ : ∃ z, kR κ this 3 = z := ⟨_, rfl⟩
  have trs : zk σ0 rs 15 := by rw [← ers]; exact hT0.ref t_this (by decide) (by decide) (by decide)
  obtain ⟨ri, eri⟩ : ∃ z, kR κ this 6 = z := ⟨_, rfl⟩
  have tri : zk σ0 ri 1 := by rw [← eri]; exact hT0.ref t_this (by decide) (by decide) (by decide)
  have hN := h0.1
  have hPS := h0.2
  have hOR := h2
  rw [esrc] at hN hPS hOR
  rw [erp] at hPS
  rw [ero] at hOR
  have hP48 : 2 ≤ N ∧ N ≤ 48 := by omega
  obtain ⟨W9, hW9⟩ : ∃ W, W = (ini N P V).2.1 := ⟨_, rfl⟩
  have hkv : ∀ i, i < 48 → zk σ0 (kR κ rv i) 1 := fun i hi => hT0.kv trv hi
  have hvi : ∀ i, i < 48 → kR κ rv i ≠ ri := fun i hi => by rw [← erv, ← eri]; exact h4.vi hi
  have hvv : ∀ i j, i < 48 → j < 48 → kR κ rv i = kR κ rv j → i = j := fun i j hi hj q9 => h4.vv hi hj (by rw [erv]; exact q9)
  have hw9 : ∀ k, k < N → 1 ≤ W9 k ∧ W9 k ≤ 20000 := fun k hk => by rw [hW9]; exact ini_w hP48 h1 hk
  have hs9 : ∀ n, n ≤ N → -199980000 ≤ fsum n (fun j => V j * W9 j) ∧ fsum n (fun j => V j * W9 j) ≤ 199980000 := fun n hn => by rw [hW9]; exact ini_sum hP48 h1 h3 hn
  refine lv_aload_n hx hb dX1_begin_0 rfl (lv_at hl 0 rfl) ?_
  refine va_get (D := κ.1) (ci := 1) (v := .ref (kR κ this 6)) (C := RX1) (T := TX1) (N := 13) hx hb hg inX1 hown hK (hT.o3 (hT.k t_this (by decide))).one 0 rfl rfl 6 (by decide) (hg _ k289) (fun _ h9 => h9) rfl dX1_begin_1 ?_
  rw [eri]
  refine lv_lconst (v := 0) hx hb dX1_begin_4 (by decide) ?_
  obtain ⟨h203, oh203, th203⟩ := hT.o1 (hT.k tri (by decide))
  have hTo := hT
  refine tVv (n := 1) (As := [.long 0]) (rest := []) hx hb hml hown hg hT hK hX (X4v_become l κ σ0 ri 0  (hT.k tri (by decide)) (by omega) (by omega)) sub_fX_fBv (mwV k274 k275 k276 k88 k277) ⟨rfl, by decide, by decide, by decide +kernel⟩ ⟨(Nat.le_of_ble_eq_true rfl), (Nat.le_of_ble_eq_true rfl)⟩ oh203 rfl rfl hl.1 rfl (Nat.le_of_ble_eq_true rfl) dX1_begin_5 zroom.rf (fun s202 H locs hφ hEs202 hT => ?_)
  obtain ⟨f204, f205⟩ := hφ
  have it206 : WV s202 ri (fsum 0 (fun j => V j * W9 j)) := by have z9 := f204; rw [j0] at z9; exact z9
  refine lv_iconst (v := 0) hx hb dX1_begin_8 (by decide) ?_
  refine lv_istore_n (lv' := [(1, .int 0), (0, .ref this)]) hx hb dX1_begin_9 rfl hl (by decide) rfl (fun ls hl => ?_)
  have loop10 : ∀ (n9 : Nat) (i : Int32) (H : Heap) (locs : List Loc) (sg : Gh) (ls : Array Slot), TS κ fBv σ0 sg s H locs → (0 ≤ i.toInt) → (i.toInt ≤ (zI σ0 src 2).toInt) → (VLS κ sg rv i.toInt.toNat V) → (∀ j, j < i.toInt.toNat → (zJ sg rg j).toInt = W9 j) → (∀ j, j < i.toInt.toNat → (zI sg rs j).toInt = -1) → (WV sg ri (fsum i.toInt.toNat (fun j => V j * W9 j))) → lv_has ls 2 [(1, .int i), (0, .ref this)] → ((zI σ0 src 2).toInt - i.toInt) < n9 → tW p l e 2 50 κ s m #[.ref this] below meth c H locs Q9 (F0 m 10 ls []) := by
    intro n9
    induction n9 with
    | zero =>
      intro i H locs sg ls hT q1 q2 q3 q4 q5 q6 hl hm9
      exfalso
      omega
    | succ n9 ih9 =>
      have ih10 := ih9
      clear ih9
      intro i H locs s207 ls hT q1 q2 q3 q4 q5 q6 hl hm9
      have q6i : WV s207 ri (fsum (ix i) (fun j => V j * W9 j)) := q6
      refine lv_iload_n hx hb dX1_begin_10 rfl (lv_at hl 0 rfl) ?_
      refine lv_aload_n hx hb dX1_begin_11 rfl (lv_at hl 1 rfl) ?_
      refine va_get (D := κ.1) (ci := 1) (v := .ref (kR κ this 0)) (C := RX1) (T := TX1) (N := 13) hx hb hg inX1 hown hK (hT.o3 (hT.k t_this (by decide))).one 0 rfl rfl 0 (by decide) (hg _ k278) (fun _ h9 => h9) rfl dX1_begin_12 ?_
      rw [esrc]
      obtain ⟨v208, ev208⟩ : ∃ zz9 : Int32, zI σ0 src 2 = zz9 := ⟨_, rfl⟩
      have qv208 : v208.toInt = (zI σ0 src 2).toInt := by rw [ev208]
      have b209 := (hT.P (hT.k tsrc (by decide)) (by decide)).1
      rw [(hT.eI tsrc (by decide) rfl ev208)] at b209
      have b209l := b209.1
      have b209h := b209.2
      refine va_get (D := κ.1) (ci := 0) (v := .int (zI s207 src 2)) (C := RX0) (T := TX0) (N := 7) hx hb hg inX0 hown hK (hT.o4 (hT.k tsrc (by decide))).one 0 rfl rfl 2 (by decide) (hg _ k162) (fun _ h9 => h9) rfl dX1_begin_15 ?_
      rw [(hT.eI tsrc (by decide) rfl ev208)]
      refine lv_icmp_ge (tgt := 87) hx hb dX1_begin_18 (by decide) (fun c9 => ?_) (fun c9 => ?_)
      · have c1 := gi_le c9
        have i_i : (ix i : Int) = i.toInt := by unfold ix; omega
        refine lv_aload_n hx hb dX1_begin_87 rfl (lv_at hl 1 rfl) ?_
        refine lv_iconst (v := 0) hx hb dX1_begin_88 (by decide) ?_
        have hTo := hT
        refine pf3_5 hx hb hg hown hK hT (hT.k t_this (by decide)) rfl ⟨by omega, by omega⟩ (hg _ k287) dX1_begin_89 (fun H locs s210 hus210 hT => ?_)
        have Y211 : ∀ j, j < ix i → (zI s210 rs j).toInt = -1 := by first | (rw [show zI s210 rs = zI s207 rs from zput_Io hus210 ((hTo.k trs (by decide)).ne (hTo.k t_this (by decide)) (by decide))]; exact q5) | rw [show zI s210 rs = zI s207 rs from zput_Io hus210 ((hTo.k trs (by decide)).ne (hTo.k t_this (by decide)) (by decide))]
        have fa212 : FA s207 s210 := FA.put hTo (hTo.k t_this (by decide)) (by decide) (by decide) hus210
        have wn213 := fa212 ri (hTo.k tri (by decide)) _ q6i
        have mV214 : VLS κ s210 rv (ix i) (V) := VLS.fa q3 fa212 (fun i hi => hTo.k (hkv i (by omega)) (by decide))
        have Z215 : ∀ j, j < ix i → (zJ s210 rg j).toInt = W9 j := by rw [show zJ s210 rg = zJ s207 rg from (zput_J hus210)]; exact q4
        have e216 : zI s210 this 5 = 0 := zput_at hus210
        have iN : ix i = N := by unfold ix; omega
        subst hQ9
        exact t_v hx hb hr hlocks hT ⟨(h0.ext (by rw [esrc]; exact tsrc) (by rw [esrc, erp]; exact trp) hT.2.2.1 rfl (fun _ => rfl)), by rw [erv, ← iN]; exact mV214, by rw [erg, ← hW9, ← iN]; exact Z215, by rw [ers, ← iN]; exact Y211, fun j hj => absurd hj (Nat.not_lt_zero j), by rw [e216]; exact n0⟩ dX1_begin_92
      · have c2 := gi_nle c9
        have i_i : (ix i : Int) = i.toInt := by unfold ix; omega
        refine lv_aload_n hx hb dX1_begin_21 rfl (lv_at hl 1 rfl) ?_
        refine va_get (D := κ.1) (ci := 1) (v := .ref (kR κ this 1)) (C := RX1) (T := TX1) (N := 13) hx hb hg inX1 hown hK (hT.o3 (hT.k t_this (by decide))).one 0 rfl rfl 1 (by decide) (hg _ k279) (fun _ h9 => h9) rfl dX1_begin_22 ?_
        rw [erv]
        refine lv_iload_n hx hb dX1_begin_25 rfl (lv_at hl 0 rfl) ?_
        refine va_aldq hx hb hK (hT.o10 (hT.k trv (by decide))).one 0 4 rfl rfl (g_in (by omega) (by omega)) dX1_begin_26 ?_
        obtain ⟨r218, er218⟩ : ∃ z, kR κ rv (ix i) = z := ⟨_, rfl⟩
        have tr218 : zk σ0 r218 1 := by rw [← er218]; exact hT0.ref trv (by decide) (zR10 (ix_lt (by omega) (by omega))) (by decide)
        refine tv (.ref r218) (by rw [← er218]; rfl) ?_
        have r218t := tr218
        refine lv_aload_n hx hb dX1_begin_27 rfl (lv_at hl 1 rfl) ?_
        refine va_get (D := κ.1) (ci := 1) (v := .ref (kR κ this 0)) (C := RX1) (T := TX1) (N := 13) hx hb hg inX1 hown hK (hT.o3 (hT.k t_this (by decide))).one 0 rfl rfl 0 (by decide) (hg _ k278) (fun _ h9 => h9) rfl dX1_begin_28 ?_
        rw [esrc]
        refine va_get (D := κ.1) (ci := 0) (v := .ref (kR κ src 1)) (C := RX0) (T := TX0) (N := 7) hx hb hg inX0 hown hK (hT.o4 (hT.k tsrc (by decide))).one 0 rfl rfl 1 (by decide) (hg _ k159) (fun _ h9 => h9) rfl dX1_begin_31 ?_
        rw [ero]
        refine lv_iload_n hx hb dX1_begin_34 rfl (lv_at hl 0 rfl) ?_
        refine va_iald hx hb hK (hT.o16 (hT.k tro (by decide))).one 0 0 rfl rfl (g_in (by omega) (by omega)) dX1_begin_35 ?_
        refine lv_topi (fun t219 ht219 => ?_)
        have xt219 : t219.toInt = V (ix i) := by rw [ht219, ixc, show zI s207 ro (ix i) = zI σ0 ro (ix i) from tro.eI hT.2.2.1 (by decide) rfl]; exact hOR (ix i) (by omega)
        have bv9 := h3 (ix i) (by omega)
        refine lv_i2l hx hb dX1_begin_36 rfl ?_
        refine g_i2l (fun t220 ht220 => ?_)
        obtain ⟨h223, oh223, th223⟩ := hT.o1 (hT.k tr218 (by decide))
        have hTo := hT
        refine tVv (n := 1) (As := [.long t220]) (rest := []) hx hb hml hown hg hT hK hX (X4v_become l κ s207 r218 t220  (hT.k tr218 (by decide)) (by omega) (by omega)) sub_fX_fBv (mwV k274 k275 k276 k88 k277) ⟨rfl, by decide, by decide, by decide +kernel⟩ ⟨(Nat.le_of_ble_eq_true rfl), (Nat.le_of_ble_eq_true rfl)⟩ oh223 rfl rfl hl.1 rfl (Nat.le_of_ble_eq_true rfl) dX1_begin_37 zroom.rf (fun s222 H locs hφ hEs222 hT => ?_)
        have Y224 : ∀ j, j < ix i → (zI s222 rs j).toInt = -1 := by first | (rw [show zI s222 rs = zI s207 rs from funext fun k => (hTo.k trs (by decide)).eI hEs222 (by decide) rfl]; exact q5) | rw [show zI s222 rs = zI s207 rs from funext fun k => (hTo.k trs (by decide)).eI hEs222 (by decide) rfl]
        have Z225 : ∀ j, j < ix i → (zJ s222 rg j).toInt = W9 j := by rw [show zJ s222 rg = zJ s207 rg from funext fun k => (hTo.k trg (by decide)).eJ hEs222 (by decide) rfl]; exact q4
        obtain ⟨f226, f227⟩ := hφ
        have mV228 : VLS κ s222 rv (ix i + 1) V := fun j hj => by
          by_cases e9 : j = ix i
          · rw [e9, er218, show V (ix i) = t220.toInt from by omega]; exact f226
          · exact f227 _ (fun q9 => e9 (hvv j (ix i) (by omega) (by omega) (by rw [er218]; exact q9))) (hTo.k (hkv j (by omega)) (by decide)) _ (q3 j (by omega))
        have it229 := f227 ri (fun q9 => hvi (ix i) (by omega) (by rw [er218]; exact q9.symm)) (hTo.k tri (by decide)) _ q6i
        refine lv_aload_n hx hb dX1_begin_40 rfl (lv_at hl 1 rfl) ?_
        refine va_get (D := κ.1) (ci := 1) (v := .ref (kR κ this 2)) (C := RX1) (T := TX1) (N := 13) hx hb hg inX1 hown hK (hT.o3 (hT.k t_this (by decide))).one 0 rfl rfl 2 (by decide) (hg _ k281) (fun _ h9 => h9) rfl dX1_begin_41 ?_
        rw [erg]
        refine lv_iload_n hx hb dX1_begin_44 rfl (lv_at hl 0 rfl) ?_
        refine lv_aload_n hx hb dX1_begin_45 rfl (lv_at hl 1 rfl) ?_
        refine va_get (D := κ.1) (ci := 1) (v := .ref (kR κ this 0)) (C := RX1) (T := TX1) (N := 13) hx hb hg inX1 hown hK (hT.o3 (hT.k t_this (by decide))).one 0 rfl rfl 0 (by decide) (hg _ k278) (fun _ h9 => h9) rfl dX1_begin_46 ?_
        rw [esrc]
        refine lv_iload_n hx hb dX1_begin_49 rfl (lv_at hl 0 rfl) ?_
        have hTo := hT
        refine tVi (n := 1) (As := [.int i]) (rest := [.int i, .ref rg]) hx hb hml hown hg hT hK hX (X0v_firstWeight (N := N) (P := P) (k := ix i) l κ s222 src i  (hT.k tsrc (by decide)) (by rw [show zI s222 src 2 = zI σ0 src 2 from tsrc.eI hT.2.2.1 (by decide) rfl]; exact hN) (fun k hk => by rw [erp, show zI s222 rp k = zI σ0 rp k from trp.eI hT.2.2.1 (by decide) rfl]; exact hPS k hk) h1 (show i.toInt = ((ix i : Nat) : Int) from by omega) (by omega) (by omega)) sub_fE_fBv (mwV k336 k337 k338 k86 k339) ⟨rfl, by decide, by decide, by decide +kernel⟩ ⟨(Nat.le_of_ble_eq_true rfl), (Nat.le_of_ble_eq_true rfl)⟩ (hT.o4 (hT.k tsrc (by decide))) rfl rfl hl.1 rfl (Nat.le_of_ble_eq_true rfl) dX1_begin_50 zroom.rf (fun x230 s231 H locs hφ hEs231 hT => ?_)
        have Y232 : ∀ j, j < ix i → (zI s231 rs j).toInt = -1 := by first | (rw [show zI s231 rs = zI s222 rs from funext fun k => (hTo.k trs (by decide)).eI hEs231 (by decide) rfl]; exact Y224) | rw [show zI s231 rs = zI s222 rs from funext fun k => (hTo.k trs (by decide)).eI hEs231 (by decide) rfl]
        have fa233 : FA s222 s231 := FA.ro hTo hEs231 (fun _ => rfl) (fun _ _ => rfl)
        have wn234 := fa233 ri (hTo.k tri (by decide)) _ it229
        have mV235 : VLS κ s231 rv (ix i + 1) (V) := VLS.fa mV228 fa233 (fun i hi => hTo.k (hkv i (by omega)) (by decide))
        have Z236 : ∀ j, j < ix i → (zJ s231 rg j).toInt = W9 j := by rw [show zJ s231 rg = zJ s222 rg from funext fun k => (hTo.k trg (by decide)).eJ hEs231 (by decide) rfl]; exact Z225
        have f237 := hφ
        have xw9 : x230.toInt = W9 (ix i) := by rw [hW9]; exact f237
        refine lv_i2l hx hb dX1_begin_53 rfl ?_
        refine g_i2l (fun t238 ht238 => ?_)
        have hTo := hT
        refine tastl (n := 48) hx hb hK hT (hT.k trg (by decide)) ⟨by decide, by decide⟩ (fun _ _ _ => rfl) (fun _ _ => trivial) (fun _ => rfl) (by omega) (by omega) dX1_begin_54 (fun H locs s239 hus239 hT => ?_)
        have Y240 : ∀ j, j < ix i → (zI s239 rs j).toInt = -1 := by first | (rw [show zI s239 rs = zI s231 rs from (zpul_I hus239)]; exact Y232) | rw [show zI s239 rs = zI s231 rs from (zpul_I hus239)]
        have fa241 : FA s231 s239 := FA.pul hus239
        have wn242 := fa241 ri (hTo.k tri (by decide)) _ wn234
        have mV243 : VLS κ s239 rv (ix i + 1) (V) := VLS.fa mV235 fa241 (fun i hi => hTo.k (hkv i (by omega)) (by decide))
        have gw244 : ∀ j, j < ix i + 1 → (zJ s239 rg j).toInt = W9 j := by rw [zpul_Ja hus239]; exact upd_more Z236 (by omega)
        refine lv_aload_n hx hb dX1_begin_55 rfl (lv_at hl 1 rfl) ?_
        refine va_get (D := κ.1) (ci := 1) (v := .ref (kR κ this 3)) (C := RX1) (T := TX1) (N := 13) hx hb hg inX1 hown hK (hT.o3 (hT.k t_this (by decide))).one 0 rfl rfl 3 (by decide) (hg _ k283) (fun _ h9 => h9) rfl dX1_begin_56 ?_
        rw [ers]
        refine lv_iload_n hx hb dX1_begin_59 rfl (lv_at hl 0 rfl) ?_
        refine lv_iconst (v := (-1)) hx hb dX1_begin_60 (by decide) ?_
        have hTo := hT
        refine tasti (n := 48) hx hb hK hT (hT.k trs (by decide)) ⟨by decide, by decide⟩ (fun _ _ _ => rfl) (fun _ _ => trivial) (fun _ => rfl) (by omega) (by omega) dX1_begin_61 (fun H locs s245 hus245 hT => ?_)
        have fa246 : FA s239 s245 := FA.put hTo (hTo.k trs (by decide)) (by decide) (by decide) hus245
        have wn247 := fa246 ri (hTo.k tri (by decide)) _ wn242
        have mV248 : VLS κ s245 rv (ix i + 1) (V) := VLS.fa mV243 fa246 (fun i hi => hTo.k (hkv i (by omega)) (by decide))
        have Z249 : ∀ j, j < ix i + 1 → (zJ s245 rg j).toInt = W9 j := by rw [show zJ s245 rg = zJ s239 rg from (zput_J hus245)]; exact gw244
        have mk250 : ∀ j, j < ix i + 1 → (zI s245 rs j).toInt = -1 := fun j hj => by
          by_cases e9 : j = ix i
          · rw [e9, zput_at hus245]; exact nm1
          · rw [zput_o hus245 (Or.inr e9)]; exact Y240 j (by omega)
        refine lv_aload_n hx hb dX1_begin_62 rfl (lv_at hl 1 rfl) ?_
        refine va_get (D := κ.1) (ci := 1) (v := .ref (kR κ this 6)) (C := RX1) (T := TX1) (N := 13) hx hb hg inX1 hown hK (hT.o3 (hT.k t_this (by decide))).one 0 rfl rfl 6 (by decide) (hg _ k289) (fun _ h9 => h9) rfl dX1_begin_63 ?_
        rw [eri]
        refine lv_aload_n hx hb dX1_begin_66 rfl (lv_at hl 1 rfl) ?_
        refine va_get (D := κ.1) (ci := 1) (v := .ref (kR κ this 1)) (C := RX1) (T := TX1) (N := 13) hx hb hg inX1 hown hK (hT.o3 (hT.k t_this (by decide))).one 0 rfl rfl 1 (by decide) (hg _ k279) (fun _ h9 => h9) rfl dX1_begin_67 ?_
        rw [erv]
        refine lv_iload_n hx hb dX1_begin_70 rfl (lv_at hl 0 rfl) ?_
        refine va_aldq hx hb hK (hT.o10 (hT.k trv (by decide))).one 0 4 rfl rfl (g_in (by omega) (by omega)) dX1_begin_71 ?_
        obtain ⟨r252, er252⟩ : ∃ z, kR κ rv (ix i) = z := ⟨_, rfl⟩
        have tr252 : zk σ0 r252 1 := by rw [← er252]; exact hT0.ref trv (by decide) (zR10 (ix_lt (by omega) (by omega))) (by decide)
        refine tv (.ref r252) (by rw [← er252]; rfl) ?_
        have wr252 : WV s245 r252 (V (ix i)) := by rw [← er252]; exact mV248 (ix i) (by omega)
        refine lv_aload_n hx hb dX1_begin_72 rfl (lv_at hl 1 rfl) ?_
        refine va_get (D := κ.1) (ci := 1) (v := .ref (kR κ this 2)) (C := RX1) (T := TX1) (N := 13) hx hb hg inX1 hown hK (hT.o3 (hT.k t_this (by decide))).one 0 rfl rfl 2 (by decide) (hg _ k281) (fun _ h9 => h9) rfl dX1_begin_73 ?_
        rw [erg]
        refine lv_iload_n hx hb dX1_begin_76 rfl (lv_at hl 0 rfl) ?_
        refine va_lald hx hb hK (hT.o9 (hT.k trg (by decide))).one 0 1 rfl rfl (g_in (by omega) (by omega)) dX1_begin_77 ?_
        refine lv_topl (fun t253 ht253 => ?_)
        have xt253 : t253.toInt = W9 (ix i) := by rw [ht253]; exact Z249 (ix i) (by omega)
        have bw9 := hw9 (ix i) (by omega)
        have bm9 := mul_bd (a := V (ix i)) (x := W9 (ix i)) (A := 9999) (B := 20000) (by omega) (by omega) (by omega) (by omega)
        have bs9 := hs9 (ix i) (by omega)
        have bt9 := hs9 (ix i + 1) (by omega)
        rw [fsum] at bt9
        have bt9 : -199980000 ≤ fsum (ix i) (fun j => V j * W9 j) + V (ix i) * W9 (ix i) ∧ fsum (ix i) (fun j => V j * W9 j) + V (ix i) * W9 (ix i) ≤ 199980000 := bt9
        obtain ⟨h256, oh256, th256⟩ := hT.o1 (hT.k tri (by decide))
        have hTo := hT
        refine tVv (n := 2) (As := [.ref r252, .long t253]) (rest := []) hx hb hml hown hg hT hK hX (X4v_add l κ s245 ri r252 t253  (hT.k tri (by decide)) (hT.k tr252 (by decide)) wn247 wr252 (by rw [xt253]; omega) (by rw [xt253]; omega) (by rw [xt253]; omega) (by rw [xt253]; omega)) sub_fX_fBv (mwV k340 k341 k342 k88 k343) ⟨rfl, by decide, by decide, by decide +kernel⟩ ⟨(Nat.le_of_ble_eq_true rfl), (Nat.le_of_ble_eq_true rfl)⟩ oh256 rfl rfl hl.1 rfl (Nat.le_of_ble_eq_true rfl) dX1_begin_78 zroom.rf (fun s255 H locs hφ hEs255 hT => ?_)
        have Y257 : ∀ j, j < ix i + 1 → (zI s255 rs j).toInt = -1 := by first | (rw [show zI s255 rs = zI s245 rs from funext fun k => (hTo.k trs (by decide)).eI hEs255 (by decide) rfl]; exact mk250) | rw [show zI s255 rs = zI s245 rs from funext fun k => (hTo.k trs (by decide)).eI hEs255 (by decide) rfl]
        have Z258 : ∀ j, j < ix i + 1 → (zJ s255 rg j).toInt = W9 j := by rw [show zJ s255 rg = zJ s245 rg from funext fun k => (hTo.k trg (by decide)).eJ hEs255 (by decide) rfl]; exact Z249
        obtain ⟨f259, f260⟩ := hφ
        have mV261 : VLS κ s255 rv (ix i + 1) V := mV248.fw f260 (fun j hj => hTo.k (hkv j (by omega)) (by decide)) (fun j hj => hvi j (by omega))
        have it262 : WV s255 ri (fsum (ix i + 1) (fun j => V j * W9 j)) := by have z9 := f259; rw [xt253] at z9; rw [fsum]; exact z9
        obtain ⟨t263, qt263⟩ : ∃ zz9 : Int32, i + Int32.ofInt 1 = zz9 := ⟨_, rfl⟩
        refine lv_iinc (v := t263) (lv' := [(1, .int t263), (0, .ref this)]) hx hb dX1_begin_81 hl (k := 0) rfl qt263 (by decide) rfl (fun ls hl => ?_)
        have ht263 : t263.toInt = i.toInt + 1 := by rw [← qt263]; exact v_addi rfl (show (Int32.ofInt 1).toInt = 1 from by decide) (by omega) (by omega)
        refine lv_goto (tgt := 10) hx hb dX1_begin_84 (by decide) ?_
        exact ih10 t263 _ _ _ _ hT  (by omega) (by omega) (by rw [show t263.toInt.toNat = ix i + 1 from by omega]; exact mV261) (by rw [show t263.toInt.toNat = ix i + 1 from by omega]; exact Z258) (by rw [show t263.toInt.toNat = ix i + 1 from by omega]; exact Y257) (by rw [show t263.toInt.toNat = ix i + 1 from by omega]; exact it262) hl (by omega)
  exact loop10 (((zI σ0 src 2).toInt - (0 : Int32).toInt).toNat + 1) 0 _ _ _ _ hT  (by omega) (by omega) (fun j hj => by rw [n0] at hj; exact absurd hj (Nat.not_lt_zero j)) (fun j hj => by rw [n0] at hj; exact absurd hj (Nat.not_lt_zero j)) (fun j hj => by rw [n0] at hj; exact absurd hj (Nat.not_lt_zero j)) (by rw [n0]; exact it206) hl (by omega)
set_option maxHeartbeats 4000000 in
set_option maxRecDepth 100000 in
theorem X1v_bitsOfDetails (l : Launch) (κ : Kt) (σ0 : Gh) (this : Nat) {M : Nat} {dt : Nat → Int} (t_this : zk σ0 this 3) (h0 : DTL κ σ0 (kR κ this 4) M dt) (h1 : (zI σ0 this 5).toInt = (M : Int)) (h2 : M ≤ 46) : TC l yX1_bitsOfDetails cX1_bitsOfDetails 3 (some .int) 2 41 [.ref this] κ σ0 (tqi κ fE σ0 (fun (r : Int32) (τ : Gh) => (r.toInt = fsum M (fun j => 1 + ((blen (dt j).natAbs : Nat) : Int))))) := by
  refine TC.of fE (by decide +kernel) (Nat.le_of_ble_eq_true rfl) ?_
  intro p e s m below meth c ls hcs hK hX hT hl
  obtain ⟨hx, hb, hr, hml, hown, hg, hlocks, hin⟩ := hcs
  have hown : s.vm.findClass RX1 = some m.cls := hown
  have hl : lv_has ls 3 [(0, .ref this)] := hl
  have hT0 := hT
  have n0 : (0 : Int32).toInt = 0 := by decide
  have n1 : (1 : Int32).toInt = 1 := by decide
  generalize hQ9 : tQ _ _ _ _ _ _ = Q9
  obtain ⟨ra, era⟩ : ∃ z, kR κ this 4 = z := ⟨_, rfl⟩
  have tra : zk σ0 ra 11 := by rw [← era]; exact hT0.ref t_this (by decide) (by decide) (by decide)
  have hDL := h0
  rw [era] at hDL
  refine lv_iconst (v := 0) hx hb dX1_bitsOfDetails_0 (by decide) ?_
  refine lv_istore_n (lv' := [(1, .int 0), (0, .ref this)]) hx hb dX1_bitsOfDetails_1 rfl hl (by decide) rfl (fun ls hl => ?_)
  refine lv_iconst (v := 0) hx hb dX1_bitsOfDetails_2 (by decide) ?_
  refine lv_istore_n (lv' := [(2, .int 0), (1, .int 0), (0, .ref this)]) hx hb dX1_bitsOfDetails_3 rfl hl (by decide) rfl (fun ls hl => ?_)
  have loop4 : ∀ (n9 : Nat) (z : Int32) (i : Int32) (H : Heap) (locs : List Loc) (sg : Gh) (ls : Array Slot), TS κ fE σ0 sg s H locs → (0 ≤ i.toInt) → (i.toInt ≤ M) → (z.toInt = fsum i.toInt.toNat (fun j => 1 + ((blen (dt j).natAbs : Nat) : Int))) → (0 ≤ z.toInt ∧ z.toInt ≤ 33 * i.toInt) → lv_has ls 3 [(1, .int z), (2, .int i), (0, .ref this)] → (46 - i.toInt) < n9 → tW p l e 2 41 κ s m #[.ref this] below meth c H locs Q9 (F0 m 4 ls []) := by
    intro n9
    induction n9 with
    | zero =>
      intro z i H locs sg ls hT q1 q2 q3 q4 hl hm9
      exfalso
      omega
    | succ n9 ih9 =>
      have ih4 := ih9
      clear ih9
      intro z i H locs s201 ls hT q1 q2 q3 q4 hl hm9
      refine lv_iload_n hx hb dX1_bitsOfDetails_4 rfl (lv_at hl 1 rfl) ?_
      refine lv_aload_n hx hb dX1_bitsOfDetails_5 rfl (lv_at hl 2 rfl) ?_
      obtain ⟨v202, ev202⟩ : ∃ zz9 : Int32, zI σ0 this 5 = zz9 := ⟨_, rfl⟩
      have qv202 : v202.toInt = (zI σ0 this 5).toInt := by rw [ev202]
      have b203 := (hT.P (hT.k t_this (by decide)) (by decide)).1
      rw [(hT.eI t_this (by decide) rfl ev202)] at b203
      have b203l := b203.1
      have b203h := b203.2
      refine va_get (D := κ.1) (ci := 1) (v := .int (zI s201 this 5)) (C := RX1) (T := TX1) (N := 13) hx hb hg inX1 hown hK (hT.o3 (hT.k t_this (by decide))).one 0 rfl rfl 5 (by decide) (hg _ k287) (fun _ h9 => h9) rfl dX1_bitsOfDetails_6 ?_
      rw [(hT.eI t_this (by decide) rfl ev202)]
      refine lv_icmp_ge (tgt := 35) hx hb dX1_bitsOfDetails_9 (by decide) (fun c9 => ?_) (fun c9 => ?_)
      · have c1 := gi_le c9
        refine lv_iload_n hx hb dX1_bitsOfDetails_35 rfl (lv_at hl 0 rfl) ?_
        subst hQ9
        exact t_i hx hb hr hlocks hT (by rw [← show i.toInt.toNat = M from by omega]; exact q3) dX1_bitsOfDetails_36
      · have c2 := gi_nle c9
        have i_i : (ix i : Int) = i.toInt := by unfold ix; omega
        refine lv_iload_n hx hb dX1_bitsOfDetails_12 rfl (lv_at hl 0 rfl) ?_
        refine lv_iconst (v := 1) hx hb dX1_bitsOfDetails_13 (by decide) ?_
        refine lv_aload_n hx hb dX1_bitsOfDetails_14 rfl (lv_at hl 2 rfl) ?_
        refine va_get (D := κ.1) (ci := 1) (v := .ref (kR κ this 4)) (C := RX1) (T := TX1) (N := 13) hx hb hg inX1 hown hK (hT.o3 (hT.k t_this (by decide))).one 0 rfl rfl 4 (by decide) (hg _ k285) (fun _ h9 => h9) rfl dX1_bitsOfDetails_15 ?_
        rw [era]
        refine lv_iload_n hx hb dX1_bitsOfDetails_18 rfl (lv_at hl 1 rfl) ?_
        refine va_aldq hx hb hK (hT.o11 (hT.k tra (by decide))).one 0 5 rfl rfl (g_in (by omega) (by omega)) dX1_bitsOfDetails_19 ?_
        obtain ⟨r205, er205⟩ : ∃ z, kR κ ra (ix i) = z := ⟨_, rfl⟩
        have tr205 : zk σ0 r205 2 := by rw [← er205]; exact hT0.ref tra (by decide) (zR11 (ix_lt (by omega) (by omega))) (by decide)
        refine tv (.ref r205) (by rw [← er205]; rfl) ?_
        obtain ⟨r206, er206⟩ : ∃ z, kR κ r205 9 = z := ⟨_, rfl⟩
        have tr206 : zk σ0 r206 1 := by rw [← er206]; exact hT0.ref tr205 (by decide) (by decide) (by decide)
        refine va_get (D := κ.1) (ci := 2) (v := .ref (kR κ r205 9)) (C := RX2) (T := TX2) (N := 10) hx hb hg inX2 hown hK (hT.o2 (hT.k tr205 (by decide))).one 0 rfl rfl 9 (by decide) (hg _ k252) (fun _ h9 => h9) rfl dX1_bitsOfDetails_20 ?_
        rw [er206]
        have wr206 : WV s201 r206 (dt (ix i)) := by rw [← er206, ← er205]; exact FA.ro hT0 hT.2.2.1 (fun _ => rfl) (fun _ _ => rfl) _ (hT0.kd tra (by omega)) _ (hDL (ix i) (by omega))
        have bl9 : blen (dt (ix i)).natAbs ≤ 32 := blen_le (by have hl9 := wr206.lim; omega)
        obtain ⟨h210, oh210, th210⟩ := hT.o1 (hT.k tr206 (by decide))
        have hTo := hT
        refine tVi (n := 0) (As := []) (rest := [.int 1, .int z]) hx hb hml hown hg hT hK hX (X4v_bitsOfAmount l κ s201 r206  (hT.k tr206 (by decide)) wr206) (fun _ _ h => h) (mwV k509 k476 k477 k88 k478) ⟨rfl, by decide, by decide, by decide +kernel⟩ ⟨(Nat.le_of_ble_eq_true rfl), (Nat.le_of_ble_eq_true rfl)⟩ oh210 rfl rfl hl.1 rfl (Nat.le_of_ble_eq_true rfl) dX1_bitsOfDetails_23 zroom.rf (fun x208 s209 H locs hφ hEs209 hT => ?_)
        have fa211 : FA s201 s209 := FA.ro hTo hEs209 (fun _ => rfl) (fun _ _ => rfl)
        have wn212 := fa211 r206 (hTo.k tr206 (by decide)) _ wr206
        have f213 := hφ
        refine lv_iadd hx hb dX1_bitsOfDetails_26 ?_
        first | refine g_add (by omega) (by omega) (fun t214 ht214 => ?_) | refine lv_topi (fun t214 ht214 => ?_)
        refine lv_iadd hx hb dX1_bitsOfDetails_27 ?_
        first | refine g_add (by omega) (by omega) (fun t215 ht215 => ?_) | refine lv_topi (fun t215 ht215 => ?_)
        refine lv_istore_n (lv' := [(1, .int t215), (2, .int i), (0, .ref this)]) hx hb dX1_bitsOfDetails_28 rfl hl (by decide) rfl (fun ls hl => ?_)
        obtain ⟨t216, qt216⟩ : ∃ zz9 : Int32, i + Int32.ofInt 1 = zz9 := ⟨_, rfl⟩
        refine lv_iinc (v := t216) (lv' := [(2, .int t216), (1, .int t215), (0, .ref this)]) hx hb dX1_bitsOfDetails_29 hl (k := 1) rfl qt216 (by decide) rfl (fun ls hl => ?_)
        have ht216 : t216.toInt = i.toInt + 1 := by rw [← qt216]; exact v_addi rfl (show (Int32.ofInt 1).toInt = 1 from by decide) (by omega) (by omega)
        refine lv_goto (tgt := 4) hx hb dX1_bitsOfDetails_32 (by decide) ?_
        exact ih4 t215 t216 _ _ _ _ hT  (by omega) (by omega) (by rw [show t216.toInt.toNat = ix i + 1 from by omega, fsum]; show _ = fsum i.toInt.toNat _ + _; rw [← q3]; omega) (by omega) (lv_sub hl [1, 0, 2] rfl) (by omega)
  exact loop4 ((46 - (0 : Int32).toInt).toNat + 1) 0 0 _ _ _ _ hT  (by omega) (by omega) (by rw [n0]; rfl) (by omega) (lv_sub hl [1, 0, 2] rfl) (by omega)
