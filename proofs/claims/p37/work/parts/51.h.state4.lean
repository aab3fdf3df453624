/-! States with their numbers: what neighbours gain -/
set_option maxHeartbeats 4000000 in
set_option maxRecDepth 100000 in
theorem X2v_leftWeightAfter (l : Launch) (κ : Kt) (σ0 : Gh) (this : Nat) (t_this : zk σ0 this 2) (h0 : 0 ≤ (zJ σ0 this 3).toInt) (h1 : (zJ σ0 this 3).toInt ≤ 20000) (h2 : 0 ≤ (zJ σ0 this 6).toInt) (h3 : (zJ σ0 this 6).toInt ≤ 20000) : TC l yX2_leftWeightAfter cX2_leftWeightAfter 1 (some .long) 0 0 [.ref this] κ σ0 (tql κ fE σ0 (fun (r : Int64) (τ : Gh) => (r.toInt = (zJ σ0 this 3).toInt + (zJ σ0 this 6).toInt))) := by
  refine TC.of fE (by decide +kernel) (Nat.le_of_ble_eq_true rfl) ?_
  intro p e s m below meth c ls hcs hK hX hT hl
  obtain ⟨hx, hb, hr, hml, hown, hg, hlocks, hin⟩ := hcs
  have hown : s.vm.findClass RX2 = some m.cls := hown
  have hl : lv_has ls 1 [(0, .ref this)] := hl
  have hT0 := hT
  generalize hQ9 : tQ _ _ _ _ _ _ = Q9
  refine lv_aload_n hx hb dX2_leftWeightAfter_0 rfl (lv_at hl 0 rfl) ?_
  refine va_get (D := κ.1) (ci := 2) (v := .long (zJ σ0 this 3)) (C := RX2) (T := TX2) (N := 10) hx hb hg inX2 hown hK (hT.o2 (hT.k t_this (by decide))).one 0 rfl rfl 3 (by decide) (hg _ k236) (fun _ h9 => h9) rfl dX2_leftWeightAfter_1 ?_
  refine lv_topl (fun t1 ht1 => ?_)
  have xt1 : t1.toInt = (zJ σ0 this 3).toInt := by rw [ht1]
  refine lv_aload_n hx hb dX2_leftWeightAfter_4 rfl (lv_at hl 0 rfl) ?_
  refine va_get (D := κ.1) (ci := 2) (v := .long (zJ σ0 this 6)) (C := RX2) (T := TX2) (N := 10) hx hb hg inX2 hown hK (hT.o2 (hT.k t_this (by decide))).one 0 rfl rfl 6 (by decide) (hg _ k243) (fun _ h9 => h9) rfl dX2_leftWeightAfter_5 ?_
  refine lv_topl (fun t2 ht2 => ?_)
  have xt2 : t2.toInt = (zJ σ0 this 6).toInt := by rw [ht2]
  refine lv_ladd hx hb dX2_leftWeightAfter_8 ?_
  refine g_addl (by omega) (by omega) (fun t3 ht3 => ?_)
  subst hQ9
  exact t_l hx hb hr hlocks hT (by omega) dX2_leftWeightAfter_9
set_option maxHeartbeats 4000000 in
set_option maxRecDepth 100000 in
theorem X2v_rightWeightAfter (l : Launch) (κ : Kt) (σ0 : Gh) (this : Nat) (t_this : zk σ0 this 2) (h0 : 0 ≤ (zJ σ0 this 4).toInt) (h1 : (zJ σ0 this 4).toInt ≤ 20000) (h2 : 0 ≤ (zJ σ0 this 5).toInt) (h3 : (zJ σ0 this 5).toInt ≤ 20000) (h4 : 0 ≤ (zJ σ0 this 6).toInt) (h5 : (zJ σ0 this 6).toInt ≤ 20000) : TC l yX2_rightWeightAfter cX2_rightWeightAfter 1 (some .long) 0 0 [.ref this] κ σ0 (tql κ fE σ0 (fun (r : Int64) (τ : Gh) => (r.toInt = (zJ σ0 this 4).toInt + ((zJ σ0 this 5).toInt - (zJ σ0 this 6).toInt)))) := by
  refine TC.of fE (by decide +kernel) (Nat.le_of_ble_eq_true rfl) ?_
  intro p e s m below meth c ls hcs hK hX hT hl
  obtain ⟨hx, hb, hr, hml, hown, hg, hlocks, hin⟩ := hcs
  have hown : s.vm.findClass RX2 = some m.cls := hown
  have hl : lv_has ls 1 [(0, .ref this)] := hl
  have hT0 := hT
  generalize hQ9 : tQ _ _ _ _ _ _ = Q9
  refine lv_aload_n hx hb dX2_rightWeightAfter_0 rfl (lv_at hl 0 rfl) ?_
  refine va_get (D := κ.1) (ci := 2) (v := .long (zJ σ0 this 4)) (C := RX2) (T := TX2) (N := 10) hx hb hg inX2 hown hK (hT.o2 (hT.k t_this (by decide))).one 0 rfl rfl 4 (by decide) (hg _ k238) (fun _ h9 => h9) rfl dX2_rightWeightAfter_1 ?_
  refine lv_topl (fun t1 ht1 => ?_)
  have xt1 : t1.toInt = (zJ σ0 this 4).toInt := by rw [ht1]
  refine lv_aload_n hx hb dX2_rightWeightAfter_4 rfl (lv_at hl 0 rfl) ?_
  refine va_get (D := κ.1) (ci := 2) (v := .long (zJ σ0 this 5)) (C := RX2) (T := TX2) (N := 10) hx hb hg inX2 hown hK (hT.o2 (hT.k t_this (by decide))).one 0 rfl rfl 5 (by decide) (hg _ k240) (fun _ h9 => h9) rfl dX2_rightWeightAfter_5 ?_
  refine lv_topl (fun t2 ht2 => ?_)
  have xt2 : t2.toInt = (zJ σ0 this 5).toInt := by rw [ht2]
  refine lv_aload_n hx hb dX2_rightWeightAfter_8 rfl (lv_at hl 0 rfl) ?_
  refine va_get (D := κ.1) (ci := 2) (v := .long (zJ σ0 this 6)) (C := RX2) (T := TX2) (N := 10) hx hb hg inX2 hown hK (hT.o2 (hT.k t_this (by decide))).one 0 rfl rfl 6 (by decide) (hg _ k243) (fun _ h9 => h9) rfl dX2_rightWeightAfter_9 ?_
  refine lv_topl (fun t3 ht3 => ?_)
  have xt3 : t3.toInt = (zJ σ0 this 6).toInt := by rw [ht3]
  refine lv_lsub hx hb dX2_rightWeightAfter_12 ?_
  refine g_subl (by omega) (by omega) (fun t4 ht4 => ?_)
  refine lv_ladd hx hb dX2_rightWeightAfter_13 ?_
  refine g_addl (by omega) (by omega) (fun t5 ht5 => ?_)
  subst hQ9
  exact t_l hx hb hr hlocks hT (by omega) dX2_rightWeightAfter_14
set_option maxHeartbeats 4000000 in
set_option maxRecDepth 100000 in
theorem X1v_addGains (l : Launch) (κ : Kt) (σ0 : Gh) (this : Nat) (sp : Nat) (n : Int32) {N M : Nat} {v dt : Nat → Int} {d E F W u : Int} {p q : Nat} (t_this : zk σ0 this 3) (t_sp : zk σ0 sp 2) (h0 : VLS κ σ0 (kR κ this 1) N v) (h1 : DTL κ σ0 (kR κ this 4) M dt) (h2 : DW κ this) (h3 : N ≤ 48 ∧ M ≤ 46) (h4 : WV σ0 (kR κ sp 9) d) (h5 : ∀ i, i < 48 → kR κ (kR κ this 1) i ≠ kR κ sp 9) (h6 : kR κ sp 9 ≠ kR κ this 11) (h7 : (zI σ0 sp 1).toInt = p) (h8 : (zI σ0 sp 2).toInt = q) (h9 : p < q ∧ q < N) (h10 : (zI σ0 sp 8).toInt = u) (h11 : (zJ σ0 sp 3).toInt + (zJ σ0 sp 6).toInt = E) (h12 : (zJ σ0 sp 4).toInt + ((zJ σ0 sp 5).toInt - (zJ σ0 sp 6).toInt) = F) (h13 : (zJ σ0 sp 5).toInt = W) (h14 : ∀ k, 3 ≤ k → k ≤ 6 → 0 ≤ (zJ σ0 sp k).toInt ∧ (zJ σ0 sp k).toInt ≤ 20000) (h15 : 1 ≤ E ∧ 1 ≤ F ∧ E + F ≤ 20000) (h16 : -2228000000 ≤ d ∧ d ≤ 2228000000) (h17 : W * E ≤ E * E + F * F) (h18 : W * F ≤ F * F + E * E) (h19 : -1114000000 ≤ v p ∧ v p ≤ 1114000000) (h20 : -1114000000 ≤ v q ∧ v q ≤ 1114000000) (h21 : n.toInt = 1) : TC l yX1_addGains cX1_addGains 7 none 2 50 [.ref this, .ref sp, .int n] κ σ0 (tqv κ fX σ0 (fun (τ : Gh) => (VLS κ τ (kR κ this 1) N (updi (updi v p (v p + gan u W d E F)) q (v q + gan u W d F E))) ∧ (DTL κ τ (kR κ this 4) M dt) ∧ (WV τ (kR κ sp 9) d))) := by
  refine TC.of fX (by decide +kernel) (Nat.le_of_ble_eq_true rfl) ?_
  intro p e s m below meth c ls hcs hK hX hT hl
  obtain ⟨hx, hb, hr, hml, hown, hg, hlocks, hin⟩ := hcs
  have hown : s.vm.findClass RX1 = some m.cls := hown
  have hl : lv_has ls 7 [(0, .ref this), (1, .ref sp), (2, .int n)] := hl
  have hT0 := hT
  have n0 : (0 : Int32).toInt = 0 := by decide
  have n_lo := Int32.le_toInt n
  have n_hi := Int32.toInt_lt n
  generalize hQ9 : tQ _ _ _ _ _ _ = Q9
  obtain ⟨rv, erv⟩ : ∃ z, kR κ this 1 = z := ⟨_, rfl⟩
  have trv : zk σ0 rv 10 := by rw [← erv]; exact hT0.ref t_this (by decide) (by decide) (by decide)
  obtain ⟨ra, era⟩ : ∃ z, kR κ this 4 = z := ⟨_, rfl⟩
  have tra : zk σ0 ra 11 := by rw [← era]; exact hT0.ref t_this (by decide) (by decide) (by decide)
  obtain ⟨rq, erq⟩ : ∃ z, kR κ this 11 = z := ⟨_, rfl⟩
  have trq : zk σ0 rq 1 := by rw [← erq]; exact hT0.ref t_this (by decide) (by decide) (by decide)
  obtain ⟨rd, erd⟩ : ∃ z, kR κ sp 9 = z := ⟨_, rfl⟩
  have trd : zk σ0 rd 1 := by rw [← erd]; exact hT0.ref t_sp (by decide) (by decide) (by decide)
  have hVL := h0
  have hDL := h1
  rw [erv] at hVL
  rw [era] at hDL
  have hWd := h4
  rw [erd] at hWd
  have hkv : ∀ i, i < N → zk σ0 (kR κ rv i) 1 := fun i hi => hT0.kv trv (by omega)
  have hkd : ∀ j, j < M → zk σ0 (kR κ (kR κ ra j) 9) 1 := fun j hj => hT0.kd tra (by omega)
  have hvv : ∀ i j, i < N → j < N → kR κ rv i = kR κ rv j → i = j := fun i j hi hj q9 => h2.vv (by omega) (by omega) (by rw [erv]; exact q9)
  have hvp : ∀ i, i < N → kR κ rv i ≠ rq := fun i hi => by rw [← erv, ← erq]; exact h2.vp (by omega)
  have hdp : ∀ j, j < M → kR κ (kR κ ra j) 9 ≠ rq := fun j hj => by rw [← era, ← erq]; exact h2.dp (by omega)
  have hdv : ∀ i j, i < N → j < M → kR κ (kR κ ra j) 9 ≠ kR κ rv i := fun i j hi hj => by rw [← era, ← erv]; exact (h2.vd (by omega) (by omega)).symm
  have hrv : ∀ i, i < N → kR κ rv i ≠ rd := fun i hi => by rw [← erv, ← erd]; exact h5 i (by omega)
  have hrp : rd ≠ rq := by rw [← erd, ← erq]; exact h6
  have g3 := h14 3 (by omega) (by omega)
  have g4 := h14 4 (by omega) (by omega)
  have g5 := h14 5 (by omega) (by omega)
  have g6 := h14 6 (by omega) (by omega)
  rw [h13] at g5
  have q1 := gain_num (w := W) (E := E) (F := F) h15.1 h15.2.1 h15.2.2 g5.1 h16 h17
  have q2 := gain_num (w := W) (E := F) (F := E) h15.2.1 h15.1 (by omega) g5.1 h16 h18
  have fe : F * F + E * E = E * E + F * F := Int.add_comm _ _
  rw [fe] at q2
  have s1 := mul_bd (a := E) (x := E) (A := 20000) (B := 20000) (by omega) (by omega) (by omega) (by omega)
  have s2 := mul_bd (a := F) (x := F) (A := 20000) (B := 20000) (by omega) (by omega) (by omega) (by omega)
  have s3 := mul_bd (a := W) (x := E) (A := 20000) (B := 20000) (by omega) (by omega) (by omega) (by omega)
  have s4 := mul_bd (a := W) (x := F) (A := 20000) (B := 20000) (by omega) (by omega) (by omega) (by omega)
  have s5 := Int.mul_pos (show 0 < E by omega) (show 0 < E by omega)
  have s6 := Int.mul_pos (show 0 < F by omega) (show 0 < F by omega)
  refine lv_aload_n hx hb dX1_addGains_0 rfl (lv_at hl 1 rfl) ?_
  obtain ⟨v1, ev1⟩ : ∃ zz9 : Int32, zI σ0 sp 8 = zz9 := ⟨_, rfl⟩
  have qv1 : v1.toInt = (zI σ0 sp 8).toInt := by rw [ev1]
  have b2 : isB v1 := by have q9 := (hT.P (hT.k t_sp (by decide)) (by decide)).2.2.2; rw [(hT.eI t_sp (by decide) rfl ev1)] at q9; exact q9
  refine va_get (D := κ.1) (ci := 2) (v := .int (zI σ0 sp 8)) (C := RX2) (T := TX2) (N := 10) hx hb hg inX2 hown hK (hT.o2 (hT.k t_sp (by decide))).one 0 rfl rfl 8 (by decide) (hg _ k249) (fun _ h9 => h9) rfl dX1_addGains_1 ?_
  rw [(hT.eI t_sp (by decide) rfl ev1)]
  refine lv_if_ne (tgt := 8) hx hb dX1_addGains_4 (by decide) (fun c9 => ?_) (fun c9 => ?_)
  · have c1 := gi_ne c9
    refine lv_aload_n hx hb dX1_addGains_8 rfl (lv_at hl 1 rfl) ?_
    have hTo := hT
    refine tVl (n := 0) (As := []) (rest := []) hx hb hml hown hg hT hK hX (X2v_leftWeightAfter l κ σ0 sp  (hT.k t_sp (by decide)) (by omega) (by omega) (by omega) (by omega)) sub_fE_fX (mwV k590 k591 k592 k89 k593) ⟨rfl, by decide, by decide, by decide +kernel⟩ ⟨(Nat.le_of_ble_eq_true rfl), (Nat.le_of_ble_eq_true rfl)⟩ (hT.o2 (hT.k t_sp (by decide))) rfl rfl hl.1 rfl (Nat.le_of_ble_eq_true rfl) dX1_addGains_9 zroom.rf (fun x3 s4 H locs hφ hEs4 hT => ?_)
    have fa5 : FA σ0 s4 := FA.ro hTo hEs4 (fun _ => rfl) (fun _ _ => rfl)
    have wn6 := fa5 rd (hTo.k trd (by decide)) _ hWd
    have mV7 : VLS κ s4 rv N (v) := VLS.fa hVL fa5 (fun i hi => hTo.k (hkv i hi) (by decide))
    have mD8 : DTL κ s4 ra M dt := DTL.fa hDL fa5 (fun j hj => hTo.k (hkd j hj) (by decide))
    have f9 := hφ
    have eE : x3.toInt = E := by omega
    refine lv_lstore_n (lv' := [(3, .long x3), (0, .ref this), (1, .ref sp), (2, .int n)]) hx hb dX1_addGains_12 rfl hl (by decide) rfl (fun ls hl => ?_)
    refine lv_aload_n hx hb dX1_addGains_13 rfl (lv_at hl 2 rfl) ?_
    have hTo := hT
    refine tVl (n := 0) (As := []) (rest := []) hx hb hml hown hg hT hK hX (X2v_rightWeightAfter l κ s4 sp  (hT.k t_sp (by decide)) (by rw [show zJ s4 sp 4 = zJ σ0 sp 4 from t_sp.eJ hT.2.2.1 (by decide) rfl]; omega) (by rw [show zJ s4 sp 4 = zJ σ0 sp 4 from t_sp.eJ hT.2.2.1 (by decide) rfl]; omega) (by rw [show zJ s4 sp 5 = zJ σ0 sp 5 from t_sp.eJ hT.2.2.1 (by decide) rfl]; omega) (by rw [show zJ s4 sp 5 = zJ σ0 sp 5 from t_sp.eJ hT.2.2.1 (by decide) rfl]; omega) (by rw [show zJ s4 sp 6 = zJ σ0 sp 6 from t_sp.eJ hT.2.2.1 (by decide) rfl]; omega) (by rw [show zJ s4 sp 6 = zJ σ0 sp 6 from t_sp.eJ hT.2.2.1 (by decide) rfl]; omega)) sub_fE_fX (mwV k594 k595 k596 k89 k597) ⟨rfl, by decide, by decide, by decide +kernel⟩ ⟨(Nat.le_of_ble_eq_true rfl), (Nat.le_of_ble_eq_true rfl)⟩ (hT.o2 (hT.k t_sp (by decide))) rfl rfl hl.1 rfl (Nat.le_of_ble_eq_true rfl) dX1_addGains_14 zroom.rf (fun x10 s11 H locs hφ hEs11 hT => ?_)
    have fa12 : FA s4 s11 := FA.ro hTo hEs11 (fun _ => rfl) (fun _ _ => rfl)
    have wn13 := fa12 rd (hTo.k trd (by decide)) _ wn6
    have mV14 : VLS κ s11 rv N (v) := VLS.fa mV7 fa12 (fun i hi => hTo.k (hkv i hi) (by decide))
    have mD15 : DTL κ s11 ra M dt := DTL.fa mD8 fa12 (fun j hj => hTo.k (hkd j hj) (by decide))
    have f16 := hφ
    rw [show zJ s4 sp 4 = zJ σ0 sp 4 from t_sp.eJ hTo.2.2.1 (by decide) rfl] at f16
    rw [show zJ s4 sp 5 = zJ σ0 sp 5 from t_sp.eJ hTo.2.2.1 (by decide) rfl] at f16
    rw [show zJ s4 sp 6 = zJ σ0 sp 6 from t_sp.eJ hTo.2.2.1 (by decide) rfl] at f16
    have eF : x10.toInt = F := by omega
    refine lv_lstore (lv' := [(5, .long x10), (3, .long x3), (0, .ref this), (1, .ref sp), (2, .int n)]) hx hb dX1_addGains_17 hl (by decide) rfl (fun ls hl => ?_)
    refine lv_aload_n hx hb dX1_addGains_19 rfl (lv_at hl 2 rfl) ?_
    refine va_get (D := κ.1) (ci := 1) (v := .ref (kR κ this 11)) (C := RX1) (T := TX1) (N := 13) hx hb hg inX1 hown hK (hT.o3 (hT.k t_this (by decide))).one 0 rfl rfl 11 (by decide) (hg _ k298) (fun _ h9 => h9) rfl dX1_addGains_20 ?_
    rw [erq]
    refine lv_aload_n hx hb dX1_addGains_23 rfl (lv_at hl 3 rfl) ?_
    refine va_get (D := κ.1) (ci := 2) (v := .ref (kR κ sp 9)) (C := RX2) (T := TX2) (N := 10) hx hb hg inX2 hown hK (hT.o2 (hT.k t_sp (by decide))).one 0 rfl rfl 9 (by decide) (hg _ k252) (fun _ h9 => h9) rfl dX1_addGains_24 ?_
    rw [erd]
    obtain ⟨h19, oh19, th19⟩ := hT.o1 (hT.k trq (by decide))
    have hTo := hT
    refine tVv (n := 1) (As := [.ref rd]) (rest := []) hx hb hml hown hg hT hK hX (X4v_copyFrom l κ s11 rq rd  (hT.k trq (by decide)) (hT.k trd (by decide)) wn13) (fun _ _ h => h) (mwV k455 k456 k457 k88 k458) ⟨rfl, by decide, by decide, by decide +kernel⟩ ⟨(Nat.le_of_ble_eq_true rfl), (Nat.le_of_ble_eq_true rfl)⟩ oh19 rfl rfl hl.1 rfl (Nat.le_of_ble_eq_true rfl) dX1_addGains_27 zroom.rf (fun s18 H locs hφ hEs18 hT => ?_)
    obtain ⟨f20, f21⟩ := hφ
    have dt22 := hrp
    have wn23 : WV s18 rd d := f21 rd hrp (hTo.k trd (by decide)) _ wn13
    have mV24 : VLS κ s18 rv N (v) := VLS.fw mV14 f21 (fun i hi => hTo.k (hkv i hi) (by decide)) hvp
    have mD25 : DTL κ s18 ra M dt := DTL.fw mD15 f21 (fun j hj => hTo.k (hkd j hj) (by decide)) hdp
    refine lv_aload_n hx hb dX1_addGains_30 rfl (lv_at hl 2 rfl) ?_
    refine va_get (D := κ.1) (ci := 1) (v := .ref (kR κ this 11)) (C := RX1) (T := TX1) (N := 13) hx hb hg inX1 hown hK (hT.o3 (hT.k t_this (by decide))).one 0 rfl rfl 11 (by decide) (hg _ k298) (fun _ h9 => h9) rfl dX1_addGains_31 ?_
    rw [erq]
    refine lv_aload_n hx hb dX1_addGains_34 rfl (lv_at hl 3 rfl) ?_
    refine va_get (D := κ.1) (ci := 2) (v := .long (zJ s18 sp 5)) (C := RX2) (T := TX2) (N := 10) hx hb hg inX2 hown hK (hT.o2 (hT.k t_sp (by decide))).one 0 rfl rfl 5 (by decide) (hg _ k242) (fun _ h9 => h9) rfl dX1_addGains_35 ?_
    refine lv_topl (fun t26 ht26 => ?_)
    have xt26 : t26.toInt = W := by rw [ht26, show zJ s18 sp 5 = zJ σ0 sp 5 from t_sp.eJ hT.2.2.1 (by decide) rfl]; exact h13
    refine lv_lload_n hx hb dX1_addGains_38 rfl (lv_at hl 1 rfl) ?_
    refine lv_lmul hx hb dX1_addGains_39 ?_
    refine g_mull (by rw [xt26, eE]; omega) (by rw [xt26, eE]; omega) (fun t27 ht27 => ?_)
    rw [xt26, eE] at ht27
    refine lv_lload_n hx hb dX1_addGains_40 rfl (lv_at hl 1 rfl) ?_
    refine lv_lload_n hx hb dX1_addGains_41 rfl (lv_at hl 1 rfl) ?_
    refine lv_lmul hx hb dX1_addGains_42 ?_
    refine g_mull (by rw [eE]; omega) (by rw [eE]; omega) (fun t28 ht28 => ?_)
    rw [eE] at ht28
    refine lv_lload hx hb dX1_addGains_43 (lv_at hl 0 rfl) ?_
    refine lv_lload hx hb dX1_addGains_45 (lv_at hl 0 rfl) ?_
    refine lv_lmul hx hb dX1_addGains_47 ?_
    refine g_mull (by rw [eF]; omega) (by rw [eF]; omega) (fun t29 ht29 => ?_)
    rw [eF] at ht29
    refine lv_ladd hx hb dX1_addGains_48 ?_
    refine g_addl (by omega) (by omega) (fun t30 ht30 => ?_)
    have hX9 : t27.toInt = W * E := ht27
    have hY9 : t30.toInt = E * E + F * F := by omega
    obtain ⟨h33, oh33, th33⟩ := hT.o1 (hT.k trq (by decide))
    have hTo := hT
    refine tVv (n := 2) (As := [.long t27, .long t30]) (rest := []) hx hb hml hown hg hT hK hX (X4v_scale l κ s18 rq t27 t30  (hT.k trq (by decide)) f20 (by omega) (by rw [hX9]; omega) (by rw [hX9]; omega) (by rw [hX9, hY9]; omega) (by rw [hX9, hY9]; omega)) (fun _ _ h => h) (mwV k551 k552 k553 k88 k554) ⟨rfl, by decide, by decide, by decide +kernel⟩ ⟨(Nat.le_of_ble_eq_true rfl), (Nat.le_of_ble_eq_true rfl)⟩ oh33 rfl rfl hl.1 rfl (Nat.le_of_ble_eq_true rfl) dX1_addGains_49 zroom.rf (fun s32 H locs hφ hEs32 hT => ?_)
    obtain ⟨f34, f35⟩ := hφ
    have wn36 : WV s32 rd d := f35 rd hrp (hTo.k trd (by decide)) _ wn23
    have mV37 : VLS κ s32 rv N (v) := VLS.fw mV24 f35 (fun i hi => hTo.k (hkv i hi) (by decide)) hvp
    have mD38 : DTL κ s32 ra M dt := DTL.fw mD25 f35 (fun j hj => hTo.k (hkd j hj) (by decide)) hdp
    have wv39 : WV s32 rq (d * (W * E) / (E * E + F * F)) := by have z9 := f34; rw [hX9, hY9] at z9; exact z9
    refine lv_aload_n hx hb dX1_addGains_52 rfl (lv_at hl 2 rfl) ?_
    refine va_get (D := κ.1) (ci := 1) (v := .ref (kR κ this 1)) (C := RX1) (T := TX1) (N := 13) hx hb hg inX1 hown hK (hT.o3 (hT.k t_this (by decide))).one 0 rfl rfl 1 (by decide) (hg _ k279) (fun _ h9 => h9) rfl dX1_addGains_53 ?_
    rw [erv]
    refine lv_aload_n hx hb dX1_addGains_56 rfl (lv_at hl 3 rfl) ?_
    obtain ⟨v40, ev40⟩ : ∃ zz9 : Int32, zI σ0 sp 1 = zz9 := ⟨_, rfl⟩
    have qv40 : v40.toInt = (zI σ0 sp 1).toInt := by rw [ev40]
    have b41 := (hT.P (hT.k t_sp (by decide)) (by decide)).2.1
    rw [(hT.eI t_sp (by decide) rfl ev40)] at b41
    have b41l := b41.1
    have b41h := b41.2
    refine va_get (D := κ.1) (ci := 2) (v := .int (zI s32 sp 1)) (C := RX2) (T := TX2) (N := 10) hx hb hg inX2 hown hK (hT.o2 (hT.k t_sp (by decide))).one 0 rfl rfl 1 (by decide) (hg _ k232) (fun _ h9 => h9) rfl dX1_addGains_57 ?_
    rw [(hT.eI t_sp (by decide) rfl ev40)]
    refine va_aldq hx hb hK (hT.o10 (hT.k trv (by decide))).one 0 4 rfl rfl (g_in (by omega) (by omega)) dX1_addGains_60 ?_
    obtain ⟨r43, er43⟩ : ∃ z, kR κ rv (ix v40) = z := ⟨_, rfl⟩
    have tr43 : zk σ0 r43 1 := by rw [← er43]; exact hT0.ref trv (by decide) (zR10 (ix_lt (by omega) (by omega))) (by decide)
    refine tv (.ref r43) (by rw [← er43]; rfl) ?_
    have r43i : ix v40 = p := ixof (by omega)
    have r43e : kR κ rv p = r43 := by rw [← r43i]; exact er43
    have wr43 : WV s32 r43 (v p) := by rw [← r43e]; have z9 := mV37 p (by omega); exact z9
    refine lv_aload_n hx hb dX1_addGains_61 rfl (lv_at hl 2 rfl) ?_
    refine va_get (D := κ.1) (ci := 1) (v := .ref (kR κ this 11)) (C := RX1) (T := TX1) (N := 13) hx hb hg inX1 hown hK (hT.o3 (hT.k t_this (by decide))).one 0 rfl rfl 11 (by decide) (hg _ k298) (fun _ h9 => h9) rfl dX1_addGains_62 ?_
    rw [erq]
    refine lv_iload_n hx hb dX1_addGains_65 rfl (lv_at hl 4 rfl) ?_
    refine lv_i2l hx hb dX1_addGains_66 rfl ?_
    refine g_i2l (fun t44 ht44 => ?_)
    obtain ⟨h47, oh47, th47⟩ := hT.o1 (hT.k tr43 (by decide))
    have hTo := hT
    refine tVv (n := 2) (As := [.ref rq, .long t44]) (rest := []) hx hb hml hown hg hT hK hX (X4v_add l κ s32 r43 rq t44  (hT.k tr43 (by decide)) (hT.k trq (by decide)) wr43 wv39 (by rw [show t44.toInt = 1 from by omega]; omega) (by rw [show t44.toInt = 1 from by omega]; omega) (by rw [show t44.toInt = 1 from by omega]; omega) (by rw [show t44.toInt = 1 from by omega]; omega)) (fun _ _ h => h) (mwV k340 k341 k342 k88 k343) ⟨rfl, by decide, by decide, by decide +kernel⟩ ⟨(Nat.le_of_ble_eq_true rfl), (Nat.le_of_ble_eq_true rfl)⟩ oh47 rfl rfl hl.1 rfl (Nat.le_of_ble_eq_true rfl) dX1_addGains_67 zroom.rf (fun s46 H locs hφ hEs46 hT => ?_)
    obtain ⟨f48, f49⟩ := hφ
    have wv50 : WV s46 r43 (v p + d * (W * E) / (E * E + F * F)) := by have z9 := f48; rw [show v p + d * (W * E) / (E * E + F * F) * t44.toInt = v p + d * (W * E) / (E * E + F * F) from by rw [show t44.toInt = 1 from by omega]; omega] at z9; exact z9
    have wn51 : WV s46 rd d := f49 rd (fun q9 => hrv p (by omega) (by rw [r43e]; exact q9.symm)) (hTo.k trd (by decide)) _ wn36
    have mV52 : VLS κ s46 rv N (updi (v) p (v p + d * (W * E) / (E * E + F * F))) := VLS.up mV37 (by rw [r43e]; exact f49) (by rw [r43e]; exact wv50) (fun i hi => hTo.k (hkv i hi) (by decide)) (fun i hi q9 => hvv i p hi (by omega) q9)
    have mD53 : DTL κ s46 ra M dt := DTL.fw mD38 f49 (fun j hj => hTo.k (hkd j hj) (by decide)) (fun j hj => by rw [← r43e]; exact hdv p j (by omega) hj)
    refine lv_aload_n hx hb dX1_addGains_70 rfl (lv_at hl 2 rfl) ?_
    refine va_get (D := κ.1) (ci := 1) (v := .ref (kR κ this 11)) (C := RX1) (T := TX1) (N := 13) hx hb hg inX1 hown hK (hT.o3 (hT.k t_this (by decide))).one 0 rfl rfl 11 (by decide) (hg _ k298) (fun _ h9 => h9) rfl dX1_addGains_71 ?_
    rw [erq]
    refine lv_aload_n hx hb dX1_addGains_74 rfl (lv_at hl 3 rfl) ?_
    refine va_get (D := κ.1) (ci := 2) (v := .ref (kR κ sp 9)) (C := RX2) (T := TX2) (N := 10) hx hb hg inX2 hown hK (hT.o2 (hT.k t_sp (by decide))).one 0 rfl rfl 9 (by decide) (hg _ k252) (fun _ h9 => h9) rfl dX1_addGains_75 ?_
    rw [erd]
    obtain ⟨h56, oh56, th56⟩ := hT.o1 (hT.k trq (by decide))
    have hTo := hT
    refine tVv (n := 1) (As := [.ref rd]) (rest := []) hx hb hml hown hg hT hK hX (X4v_copyFrom l κ s46 rq rd  (hT.k trq (by decide)) (hT.k trd (by decide)) wn51) (fun _ _ h => h) (mwV k455 k456 k457 k88 k458) ⟨rfl, by decide, by decide, by decide +kernel⟩ ⟨(Nat.le_of_ble_eq_true rfl), (Nat.le_of_ble_eq_true rfl)⟩ oh56 rfl rfl hl.1 rfl (Nat.le_of_ble_eq_true rfl) dX1_addGains_78 zroom.rf (fun s55 H locs hφ hEs55 hT => ?_)
    obtain ⟨f57, f58⟩ := hφ
    have dt59 := hrp
    have wn60 : WV s55 rd d := f58 rd hrp (hTo.k trd (by decide)) _ wn51
    have mV61 : VLS κ s55 rv N (updi (v) p (v p + d * (W * E) / (E * E + F * F))) := VLS.fw mV52 f58 (fun i hi => hTo.k (hkv i hi) (by decide)) hvp
    have mD62 : DTL κ s55 ra M dt := DTL.fw mD53 f58 (fun j hj => hTo.k (hkd j hj) (by decide)) hdp
    refine lv_aload_n hx hb dX1_addGains_81 rfl (lv_at hl 2 rfl) ?_
    refine va_get (D := κ.1) (ci := 1) (v := .ref (kR κ this 11)) (C := RX1) (T := TX1) (N := 13) hx hb hg inX1 hown hK (hT.o3 (hT.k t_this (by decide))).one 0 rfl rfl 11 (by decide) (hg _ k298) (fun _ h9 => h9) rfl dX1_addGains_82 ?_
    rw [erq]
    refine lv_aload_n hx hb dX1_addGains_85 rfl (lv_at hl 3 rfl) ?_
    refine va_get (D := κ.1) (ci := 2) (v := .long (zJ s55 sp 5)) (C := RX2) (T := TX2) (N := 10) hx hb hg inX2 hown hK (hT.o2 (hT.k t_sp (by decide))).one 0 rfl rfl 5 (by decide) (hg _ k242) (fun _ h9 => h9) rfl dX1_addGains_86 ?_
    refine lv_topl (fun t63 ht63 => ?_)
    have xt63 : t63.toInt = W := by rw [ht63, show zJ s55 sp 5 = zJ σ0 sp 5 from t_sp.eJ hT.2.2.1 (by decide) rfl]; exact h13
    refine lv_lload hx hb dX1_addGains_89 (lv_at hl 0 rfl) ?_
    refine lv_lmul hx hb dX1_addGains_91 ?_
    refine g_mull (by rw [xt63, eF]; omega) (by rw [xt63, eF]; omega) (fun t64 ht64 => ?_)
    rw [xt63, eF] at ht64
    refine lv_lload_n hx hb dX1_addGains_92 rfl (lv_at hl 1 rfl) ?_
    refine lv_lload_n hx hb dX1_addGains_93 rfl (lv_at hl 1 rfl) ?_
    refine lv_lmul hx hb dX1_addGains_94 ?_
    refine g_mull (by rw [eE]; omega) (by rw [eE]; omega) (fun t65 ht65 => ?_)
    rw [eE] at ht65
    refine lv_lload hx hb dX1_addGains_95 (lv_at hl 0 rfl) ?_
    refine lv_lload hx hb dX1_addGains_97 (lv_at hl 0 rfl) ?_
    refine lv_lmul hx hb dX1_addGains_99 ?_
    refine g_mull (by rw [eF]; omega) (by rw [eF]; omega) (fun t66 ht66 => ?_)
    rw [eF] at ht66
    refine lv_ladd hx hb dX1_addGains_100 ?_
    refine g_addl (by omega) (by omega) (fun t67 ht67 => ?_)
    have hX9 : t64.toInt = W * F := ht64
    have hY9 : t67.toInt = E * E + F * F := by omega
    obtain ⟨h70, oh70, th70⟩ := hT.o1 (hT.k trq (by decide))
    have hTo := hT
    refine tVv (n := 2) (As := [.long t64, .long t67]) (rest := []) hx hb hml hown hg hT hK hX (X4v_scale l κ s55 rq t64 t67  (hT.k trq (by decide)) f57 (by omega) (by rw [hX9]; omega) (by rw [hX9]; omega) (by rw [hX9, hY9]; omega) (by rw [hX9, hY9]; omega)) (fun _ _ h => h) (mwV k551 k552 k553 k88 k554) ⟨rfl, by decide, by decide, by decide +kernel⟩ ⟨(Nat.le_of_ble_eq_true rfl), (Nat.le_of_ble_eq_true rfl)⟩ oh70 rfl rfl hl.1 rfl (Nat.le_of_ble_eq_true rfl) dX1_addGains_101 zroom.rf (fun s69 H locs hφ hEs69 hT => ?_)
    obtain ⟨f71, f72⟩ := hφ
    have wn73 : WV s69 rd d := f72 rd hrp (hTo.k trd (by decide)) _ wn60
    have mV74 : VLS κ s69 rv N (updi (v) p (v p + d * (W * E) / (E * E + F * F))) := VLS.fw mV61 f72 (fun i hi => hTo.k (hkv i hi) (by decide)) hvp
    have mD75 : DTL κ s69 ra M dt := DTL.fw mD62 f72 (fun j hj => hTo.k (hkd j hj) (by decide)) hdp
    have wv76 : WV s69 rq (d * (W * F) / (E * E + F * F)) := by have z9 := f71; rw [hX9, hY9] at z9; exact z9
    refine lv_aload_n hx hb dX1_addGains_104 rfl (lv_at hl 2 rfl) ?_
    refine va_get (D := κ.1) (ci := 1) (v := .ref (kR κ this 1)) (C := RX1) (T := TX1) (N := 13) hx hb hg inX1 hown hK (hT.o3 (hT.k t_this (by decide))).one 0 rfl rfl 1 (by decide) (hg _ k279) (fun _ h9 => h9) rfl dX1_addGains_105 ?_
    rw [erv]
    refine lv_aload_n hx hb dX1_addGains_108 rfl (lv_at hl 3 rfl) ?_
    obtain ⟨v77, ev77⟩ : ∃ zz9 : Int32, zI σ0 sp 2 = zz9 := ⟨_, rfl⟩
    have qv77 : v77.toInt = (zI σ0 sp 2).toInt := by rw [ev77]
    have b78 := (hT.P (hT.k t_sp (by decide)) (by decide)).2.2.1
    rw [(hT.eI t_sp (by decide) rfl ev77)] at b78
    have b78l := b78.1
    have b78h := b78.2
    refine va_get (D := κ.1) (ci := 2) (v := .int (zI s69 sp 2)) (C := RX2) (T := TX2) (N := 10) hx hb hg inX2 hown hK (hT.o2 (hT.k t_sp (by decide))).one 0 rfl rfl 2 (by decide) (hg _ k235) (fun _ h9 => h9) rfl dX1_addGains_109 ?_
    rw [(hT.eI t_sp (by decide) rfl ev77)]
    refine va_aldq hx hb hK (hT.o10 (hT.k trv (by decide))).one 0 4 rfl rfl (g_in (by omega) (by omega)) dX1_addGains_112 ?_
    obtain ⟨r80, er80⟩ : ∃ z, kR κ rv (ix v77) = z := ⟨_, rfl⟩
    have tr80 : zk σ0 r80 1 := by rw [← er80]; exact hT0.ref trv (by decide) (zR10 (ix_lt (by omega) (by omega))) (by decide)
    refine tv (.ref r80) (by rw [← er80]; rfl) ?_
    have r80i : ix v77 = q := ixof (by omega)
    have r80e : kR κ rv q = r80 := by rw [← r80i]; exact er80
    have wr80 : WV s69 r80 (v q) := by rw [← r80e]; have z9 := mV74 q (by omega); rw [updi_o (show q ≠ p by omega)] at z9; exact z9
    refine lv_aload_n hx hb dX1_addGains_113 rfl (lv_at hl 2 rfl) ?_
    refine va_get (D := κ.1) (ci := 1) (v := .ref (kR κ this 11)) (C := RX1) (T := TX1) (N := 13) hx hb hg inX1 hown hK (hT.o3 (hT.k t_this (by decide))).one 0 rfl rfl 11 (by decide) (hg _ k298) (fun _ h9 => h9) rfl dX1_addGains_114 ?_
    rw [erq]
    refine lv_iload_n hx hb dX1_addGains_117 rfl (lv_at hl 4 rfl) ?_
    refine lv_i2l hx hb dX1_addGains_118 rfl ?_
    refine g_i2l (fun t81 ht81 => ?_)
    obtain ⟨h84, oh84, th84⟩ := hT.o1 (hT.k tr80 (by decide))
    have hTo := hT
    refine tVv (n := 2) (As := [.ref rq, .long t81]) (rest := []) hx hb hml hown hg hT hK hX (X4v_add l κ s69 r80 rq t81  (hT.k tr80 (by decide)) (hT.k trq (by decide)) wr80 wv76 (by rw [show t81.toInt = 1 from by omega]; omega) (by rw [show t81.toInt = 1 from by omega]; omega) (by rw [show t81.toInt = 1 from by omega]; omega) (by rw [show t81.toInt = 1 from by omega]; omega)) (fun _ _ h => h) (mwV k340 k341 k342 k88 k343) ⟨rfl, by decide, by decide, by decide +kernel⟩ ⟨(Nat.le_of_ble_eq_true rfl), (Nat.le_of_ble_eq_true rfl)⟩ oh84 rfl rfl hl.1 rfl (Nat.le_of_ble_eq_true rfl) dX1_addGains_119 zroom.rf (fun s83 H locs hφ hEs83 hT => ?_)
    obtain ⟨f85, f86⟩ := hφ
    have wv87 : WV s83 r80 (v q + d * (W * F) / (E * E + F * F)) := by have z9 := f85; rw [show v q + d * (W * F) / (E * E + F * F) * t81.toInt = v q + d * (W * F) / (E * E + F * F) from by rw [show t81.toInt = 1 from by omega]; omega] at z9; exact z9
    have wn88 : WV s83 rd d := f86 rd (fun q9 => hrv q (by omega) (by rw [r80e]; exact q9.symm)) (hTo.k trd (by decide)) _ wn73
    have mV89 : VLS κ s83 rv N (updi (updi (v) p (v p + d * (W * E) / (E * E + F * F))) q (v q + d * (W * F) / (E * E + F * F))) := VLS.up mV74 (by rw [r80e]; exact f86) (by rw [r80e]; exact wv87) (fun i hi => hTo.k (hkv i hi) (by decide)) (fun i hi q9 => hvv i q hi (by omega) q9)
    have mD90 : DTL κ s83 ra M dt := DTL.fw mD75 f86 (fun j hj => hTo.k (hkd j hj) (by decide)) (fun j hj => by rw [← r80e]; exact hdv q j (by omega) hj)
    subst hQ9
    exact t_v hx hb hr hlocks hT ⟨by rw [gan_c (show u ≠ 0 from by omega), gan_c (show u ≠ 0 from by omega), fe, erv]; have z9 := mV89; exact z9, by rw [era]; exact mD90, by rw [erd]; exact wn88⟩ dX1_addGains_122
  · have c2 := gi_eq c9
    subst hQ9
    exact t_v hx hb hr hlocks hT ⟨h0.same (upd_id (by rw [show u = 0 from by omega, gan_0]; omega) (by rw [show u = 0 from by omega, gan_0]; omega)), h1, h4⟩ dX1_addGains_7
