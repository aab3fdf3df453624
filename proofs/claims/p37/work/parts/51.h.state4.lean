/-! States with their numbers: what neighbours gain -/
set_option maxHeartbeats 4000000 in
set_option maxRecDepth 100000 in
theorem X2v_leftWeightAfter (l : Launch) (κ : Kt) (σ0 : Gh) (this : Nat) (t_this : zk σ0 this 2) (h0 : 0 ≤ (zJ σ0 this 3).toInt) (h1 : (zJ σ0 this 3).toInt ≤ 20000) (h2 : 0 ≤ (zJ σ0 this 6).toInt) (h3 : (zJ σ0 this 6).toInt ≤ 20000) : TC l yX2_leftWeightAfter cX2_leftWeightAfter 1 (some .long) 0 0 [.ref this] κ σ0 (tql κ fE σ0 (fun (r : Int64) (τ : Gh) => (r.toInt = (zJ σ0 this 3).toInt + (zJ σ0 this 6).toInt))) := by
  refine TC.of fE (by decide +kernel) (Nat.le_of_ble_eq_true rfl) ?_
  intro p e s m below meth c ls hcs hK hX hT hl
  obtain ⟨hx, hb, hr, hml, hown, hg, hlocks, hin⟩ := hcs
  have hown : s.vm.findClass RX2 = some m.cls := hown
  have hl : lv_has ls 1 [(0, .ref this)] := hl
  have hT0 := hT
  generalize hQ9 : tQ _ _ _ _ _ _ = Q9
  refine lv_aload_n hx hb dX2_leftWeightAfter_0 rfl (lv_at hl 0 rfl) ?_
  refine va_get (D := κ.1) (ci := 2) (v := .long (zJ σ0 this 3)) (C := RX2) (T := TX2) (N := 10) hx hb hg inX2 hown hK (hT.o2 (hT.k t_this (by decide))).one 0 rfl rfl 3 (by decide) (hg _ k236) (fun _ h9 => h9) rfl dX2_leftWeightAfter_1 ?_
  refine lv_topl (fun t1 ht1 => ?_)
  have xt1 : t1.toInt = (zJ σ0 this 3).toInt := by rw [ht1]
  refine lv_aload_n hx hb dX2_leftWeightAfter_4 rfl (lv_at hl 0 rfl) ?_
  refine va_get (D := κ.1) (ci := 2) (v := .long (zJ σ0 this 6)) (C := RX2) (T := TX2) (N := 10) hx hb hg inX2 hown hK (hT.o2 (hT.k t_this (by decide))).one 0 rfl rfl 6 (by decide) (hg _ k243) (fun _ h9 => h9) rfl dX2_leftWeightAfter_5 ?_
  refine lv_topl (fun t2 ht2 => ?_)
  have xt2 : t2.toInt = (zJ σ0 this 6).toInt := by rw [ht2]
  refine lv_ladd hx hb dX2_leftWeightAfter_8 ?_
  refine g_addl (by omega) (by omega) (fun t3 ht3 => ?_)
  subst hQ9
  exact t_l hx hb hr hlocks hT (by omega) dX2_leftWeightAfter_9
set_option maxHeartbeats 4000000 in
set_option maxRecDepth 100000 in
theorem X2v_rightWeightAfter (l : Launch) (κ : Kt) (σ0 : Gh) (this : Nat) (t_this : zk σ0 this 2) (h0 : 0 ≤ (zJ σ0 this 4).toInt) (h1 : (zJ σ0 this 4).toInt ≤ 20000) (h2 : 0 ≤ (zJ σ0 this 5).toInt) (h3 : (zJ σ0 this 5).toInt ≤ 20000) (h4 : 0 ≤ (zJ σ0 this 6).toInt) (h5 : (zJ σ0 this 6).toInt ≤ 20000) : TC l yX2_rightWeightAfter cX2_rightWeightAfter 1 (some .long) 0 0 [.ref this] κ σ0 (tql κ fE σ0 (fun (r : Int64) (τ : Gh) => (r.toInt = (zJ σ0 this 4).toInt + ((zJ σ0 this 5).toInt - (zJ σ0 this 6).toInt)))) := by
  refine TC.of fE (by decide +kernel) (Nat.le_of_ble_eq_true rfl) ?_
  intro p e s m below meth c ls hcs hK hX hT hl
  obtain ⟨hx, hb, hr, hml, hown, hg, hlocks, hin⟩ := hcs
  have hown : s.vm.findClass RX2 = some m.cls := hown
  have hl : lv_has ls 1 [(0, .ref this)] := hl
  have hT0 := hT
  generalize hQ9 : tQ _ _ _ _ _ _ = Q9
  refine lv_aload_n hx hb dX2_rightWeightAfter_0 rfl (lv_at hl 0 rfl) ?_
  refine va_get (D := κ.1) (ci := 2) (v := .long (zJ σ0 this 4)) (C := RX2) (T := TX2) (N := 10) hx hb hg inX2 hown hK (hT.o2 (hT.k t_this (by decide))).one 0 rfl rfl 4 (by decide) (hg _ k238) (fun _ h9 => h9) rfl dX2_rightWeightAfter_1 ?_
  refine lv_topl (fun t1 ht1 => ?_)
  have xt1 : t1.toInt = (zJ σ0 this 4).toInt := by rw [ht1]
  refine lv_aload_n hx hb dX2_rightWeightAfter_4 rfl (lv_at hl 0 rfl) ?_
  refine va_get (D := κ.1) (ci := 2) (v := .long (zJ σ0 this 5)) (C := RX2) (T := TX2) (N := 10) hx hb hg inX2 hown hK (hT.o2 (hT.k t_this (by decide))).one 0 rfl rfl 5 (by decide) (hg _ k240) (fun _ h9 => h9) rfl dX2_rightWeightAfter_5 ?_
  refine lv_topl (fun t2 ht2 => ?_)
  have xt2 : t2.toInt = (zJ σ0 this 5).toInt := by rw [ht2]
  refine lv_aload_n hx hb dX2_rightWeightAfter_8 rfl (lv_at hl 0 rfl) ?_
  refine va_get (D := κ.1) (ci := 2) (v := .long (zJ σ0 this 6)) (C := RX2) (T := TX2) (N := 10) hx hb hg inX2 hown hK (hT.o2 (hT.k t_this (by decide))).one 0 rfl rfl 6 (by decide) (hg _ k243) (fun _ h9 => h9) rfl dX2_rightWeightAfter_9 ?_
  refine lv_topl (fun t3 ht3 => ?_)
  have xt3 : t3.toInt = (zJ σ0 this 6).toInt := by rw [ht3]
  refine lv_lsub hx hb dX2_rightWeightAfter_12 ?_
  refine g_subl (by omega) (by omega) (fun t4 ht4 => ?_)
  refine lv_ladd hx hb dX2_rightWeightAfter_13 ?_
  refine g_addl (by omega) (by omega) (fun t5 ht5 => ?_)
  subst hQ9
  exact t_l hx hb hr hlocks hT (by omega) dX2_rightWeightAfter_14
set_option maxHeartbeats 4000000 in
set_option maxRecDepth 100000 in
theorem X1v_addGains (l : Launch) (κ : Kt) (σ0 : Gh) (this : Nat) (sp : Nat) (n : Int32) {N M : Nat} {v dt : Nat → Int} {d E F W u : Int} {pa q : Nat} (t_this : zk σ0 this 3) (t_sp : zk σ0 sp 2) (h0 : VLS κ σ0 (kR κ this 1) N v) (h1 : DTL κ σ0 (kR κ this 4) M dt) (h2 : DW κ this) (h3 : N ≤ 48 ∧ M ≤ 46) (h4 : WV σ0 (kR κ sp 9) d) (h5 : ∀ i, i < 48 → kR κ (kR κ this 1) i ≠ kR κ sp 9) (h6 : kR κ sp 9 ≠ kR κ this 11) (h7 : (zI σ0 sp 1).toInt = pa) (h8 : (zI σ0 sp 2).toInt = q) (h9 : pa < q ∧ q < N) (h10 : (zI σ0 sp 8).toInt = u) (h11 : (zJ σ0 sp 3).toInt + (zJ σ0 sp 6).toInt = E) (h12 : (zJ σ0 sp 4).toInt + ((zJ σ0 sp 5).toInt - (zJ σ0 sp 6).toInt) = F) (h13 : (zJ σ0 sp 5).toInt = W) (h14 : ∀ k, 3 ≤ k → k ≤ 6 → 0 ≤ (zJ σ0 sp k).toInt ∧ (zJ σ0 sp k).toInt ≤ 20000) (h15 : 1 ≤ E ∧ 1 ≤ F ∧ E + F ≤ 20000) (h16 : -2228000000 ≤ d ∧ d ≤ 2228000000) (h17 : W * E ≤ E * E + F * F) (h18 : W * F ≤ F * F + E * E) (h19 : -1114000000 ≤ v pa ∧ v pa ≤ 1114000000) (h20 : -1114000000 ≤ v q ∧ v q ≤ 1114000000) (h21 : n.toInt = 1) : TC l yX1_addGains cX1_addGains 7 none 2 50 [.ref this, .ref sp, .int n] κ σ0 (tqv κ fX σ0 (fun (τ : Gh) => (VLS κ τ (kR κ this 1) N (updi (updi v pa (v pa + gan u W d E F)) q (v q + gan u W d F E))) ∧ (DTL κ τ (kR κ this 4) M dt) ∧ (WV τ (kR κ sp 9) d))) := by
  refine TC.of fX (by decide +kernel) (Nat.le_of_ble_eq_true rfl) ?_
  intro p e s m below meth c ls hcs hK hX hT hl
  obtain ⟨hx, hb, hr, hml, hown, hg, hlocks, hin⟩ := hcs
  have hown : s.vm.findClass RX1 = some m.cls := hown
  have hl : lv_has ls 7 [(0, .ref this), (1, .ref sp), (2, .int n)] := hl
  have hT0 := hT
  have n0 : (0 : Int32).toInt = 0 := by decide
  have n_lo := Int32.le_toInt n
  have n_hi := Int32.toInt_lt n
  generalize hQ9 : tQ _ _ _ _ _ _ = Q9
  obtain ⟨rv, erv⟩ : ∃ z, kR κ this 1 = z := ⟨_, rfl⟩
  have trv : zk σ0 rv 10 := by rw [← erv]; exact hT0.ref t_this (by decide) (by decide) (by decide)
  obtain ⟨ra, era⟩ : ∃ z, kR κ this 4 = z := ⟨_, rfl⟩
  have tra : zk σ0 ra 11 := by rw [← era]; exact hT0.ref t_this (by decide) (by decide) (by decide)
  obtain ⟨rq, erq⟩ : ∃ z, kR κ this 11 = z := ⟨_, rfl⟩
  have trq : zk σ0 rq 1 := by rw [← erq]; exact hT0.ref t_this (by decide) (by decide) (by decide)
  obtain ⟨rd, erd⟩ : ∃ z, kR κ sp 9 = z := ⟨_, rfl⟩
  have trd : zk σ0 rd 1 := by rw [← erd]; exact hT0.ref t_sp (by decide) (by decide) (by decide)
  have hVL := h0
  have hDL := h1
  rw [erv] at hVL
  rw [era] at hDL
  have hWd := h4
  rw [erd] at hWd
  have hkv : ∀ i, i < N → zk σ0 (kR κ rv i) 1 := fun i hi => hT0.kv trv (by omega)
  have hkd : ∀ j, j < M → zk σ0 (kR κ (kR κ ra j) 9) 1 := fun j hj => hT0.kd tra (by omega)
  have hvv : ∀ i j, i < N → j < N → kR κ rv i = kR κ rv j → i = j := fun i j hi hj q9 => h2.vv (by omega) (by omega) (by rw [erv]; exact q9)
  have hvp : ∀ i, i < N → kR κ rv i ≠ rq := fun i hi => by rw [← erv, ← erq]; exact h2.vp (by omega)
  have hdp : ∀ j, j < M → kR κ (kR κ ra j) 9 ≠ rq := fun j hj => by rw [← era, ← erq]; exact h2.dp (by omega)
  have hdv : ∀ i j, i < N → j < M → kR κ (kR κ ra j) 9 ≠ kR κ rv i := fun i j hi hj => by rw [← era, ← erv]; exact (h2.vd (by omega) (by omega)).symm
  have hrv : ∀ i, i < N → kR κ rv i ≠ rd := fun i hi => by rw [← erv, ← erd]; exact h5 i (by omega)
  have hrp : rd ≠ rq := by rw [← erd, ← erq]; exact h6
  have g3 := h14 3 (by omega) (by omega)
  have g4 := h14 4 (by omega) (by omega)
  have g5 := h14 5 (by omega) (by omega)
  have g6 := h14 6 (by omega) (by omega)
  rw [h13] at g5
  have q1 := gain_num (w := W) (E := E) (F := F) h15.1 h15.2.1 h15.2.2 g5.1 h16 h17
  have q2 := gain_num (w := W) (E := F) (F := E) h15.2.1 h15.1 (by omega) g5.1 h16 h18
  have fe : F * F + E * E = E * E + F * F := Int.add_comm _ _
  rw [fe] at q2
  have s1 := mul_bd (a := E) (x := E) (A := 20000) (B := 20000) (by omega) (by omega) (by omega) (by omega)
  have s2 := mul_bd (a := F) (x := F) (A := 20000) (B := 20000) (by omega) (by omega) (by omega) (by omega)
  have s3 := mul_bd (a := W) (x := E) (A := 20000) (B := 20000) (by omega) (by omega) (by omega) (by omega)
  have s4 := mul_bd (a := W) (x := F) (A := 20000) (B := 20000) (by omega) (by omega) (by omega) (by omega)
  have s5 := Int.mul_pos (show 0 < E by omega) (show 0 < E by omega)
  have s6 := Int.mul_pos (show 0 < F by omega) (show 0 < F by omega)
  refine lv_aload_n hx hb dX1_addGains_0 rfl (lv_at hl 1 rfl) ?_
  obtain ⟨v201, ev201⟩ : ∃ zz9 : Int32, zI σ0 sp 8 = zz9 := ⟨_, rfl⟩
  have qv201 : v201.toInt = (zI σ0 sp 8).toInt := by rw [ev201]
  have b202 : isB v201 := by have q9 := (hT.P (hT.k t_sp (by decide)) (by decide)).2.2.2; rw [(hT.eI t_sp (by decide) rfl ev201)] at q9; exact q9
  refine va_get (D := κ.1) (ci := 2) (v := .int (zI σ0 sp 8)) (C := RX2) (T := TX2) (N := 10) hx hb hg inX2 hown hK (hT.o2 (hT.k t_sp (by decide))).one 0 rfl rfl 8 (by decide) (hg _ k249) (fun _ h9 => h9) rfl dX1_addGains_1 ?_
  rw [(hT.eI t_sp (by decide) rfl ev201)]
  refine lv_if_ne (tgt := 8) hx hb dX1_addGains_4 (by decide) (fun c9 => ?_) (fun c9 => ?_)
  · have c1 := gi_ne c9
    refine lv_aload_n hx hb dX1_addGains_8 rfl (lv_at hl 1 rfl) ?_
    have hTo := hT
    refine tVl (n := 0) (As := []) (rest := []) hx hb hml hown hg hT hK hX (X2v_leftWeightAfter l κ σ0 sp  (hT.k t_sp (by decide)) (by omega) (by omega) (by omega) (by omega)) sub_fE_fX (mwV k590 k591 k592 k89 k593) ⟨rfl, by decide, by decide, by decide +kernel⟩ ⟨(Nat.le_of_ble_eq_true rfl), (Nat.le_of_ble_eq_true rfl)⟩ (hT.o2 (hT.k t_sp (by decide))) rfl rfl hl.1 rfl (Nat.le_of_ble_eq_true rfl) dX1_addGains_9 zroom.rf (fun x203 s204 H locs hφ hEs204 hT => ?_)
    have fa205 : FA σ0 s204 := FA.ro hTo hEs204 (fun _ => rfl) (fun _ _ => rfl)
    have wn206 := fa205 rd (hTo.k trd (by decide)) _ hWd
    have mV207 : VLS κ s204 rv N (v) := VLS.fa hVL fa205 (fun i hi => hTo.k (hkv i hi) (by decide))
    have mD208 : DTL κ s204 ra M dt := DTL.fa hDL fa205 (fun j hj => hTo.k (hkd j hj) (by decide))
    have f209 := hφ
    have eE : x203.toInt = E := by omega
    refine lv_lstore_n (lv' := [(3, .long x203), (0, .ref this), (1, .ref sp), (2, .int n)]) hx hb dX1_addGains_12 rfl hl (by decide) rfl (fun ls hl => ?_)
    refine lv_aload_n hx hb dX1_addGains_13 rfl (lv_at hl 2 rfl) ?_
    have hTo := hT
    refine tVl (n := 0) (As := []) (rest := []) hx hb hml hown hg hT hK hX (X2v_rightWeightAfter l κ s204 sp  (hT.k t_sp (by decide)) (by rw [show zJ s204 sp 4 = zJ σ0 sp 4 from t_sp.eJ hT.2.2.1 (by decide) rfl]; omega) (by rw [show zJ s204 sp 4 = zJ σ0 sp 4 from t_sp.eJ hT.2.2.1 (by decide) rfl]; omega) (by rw [show zJ s204 sp 5 = zJ σ0 sp 5 from t_sp.eJ hT.2.2.1 (by decide) rfl]; omega) (by rw [show zJ s204 sp 5 = zJ σ0 sp 5 from t_sp.eJ hT.2.2.1 (by decide) rfl]; omega) (by rw [show zJ s204 sp 6 = zJ σ0 sp 6 from t_sp.eJ hT.2.2.1 (by decide) rfl]; omega) (by rw [show zJ s204 sp 6 = zJ σ0 sp 6 from t_sp.eJ hT.2.2.1 (by decide) rfl]; omega)) sub_fE_fX (mwV k594 k595 k596 k89 k597) ⟨rfl, by decide, by decide, by decide +kernel⟩ ⟨(Nat.le_of_ble_eq_true rfl), (Nat.le_of_ble_eq_true rfl)⟩ (hT.o2 (hT.k t_sp (by decide))) rfl rfl hl.1 rfl (Nat.le_of_ble_eq_true rfl) dX1_addGains_14 zroom.rf (fun x210 s211 H locs hφ hEs211 hT => ?_)
    have fa212 : FA s204 s211 := FA.ro hTo hEs211 (fun _ => rfl) (fun _ _ => rfl)
    have wn213 := fa212 rd (hTo.k trd (by decide)) _ wn206
    have mV214 : VLS κ s211 rv N (v) := VLS.fa mV207 fa212 (fun i hi => hTo.k (hkv i hi) (by decide))
    have mD215 : DTL κ s211 ra M dt := DTL.fa mD208 fa212 (fun j hj => hTo.k (hkd j hj) (by decide))
    have f216 := hφ
    rw [show zJ s204 sp 4 = zJ σ0 sp 4 from t_sp.eJ hTo.2.2.1 (by decide) rfl] at f216
    rw [show zJ s204 sp 5 = zJ σ0 sp 5 from t_sp.eJ hTo.2.2.1 (by decide) rfl] at f216
    rw [show zJ s204 sp 6 = zJ σ0 sp 6 from t_sp.eJ hTo.2.2.1 (by decide) rfl] at f216
    have eF : x210.toInt = F := by omega
    refine lv_lstore (lv' := [(5, .long x210), (3, .long x203), (0, .ref this), (1, .ref sp), (2, .int n)]) hx hb dX1_addGains_17 hl (by decide) rfl (fun ls hl => ?_)
    refine lv_aload_n hx hb dX1_addGains_19 rfl (lv_at hl 2 rfl) ?_
    refine va_get (D := κ.1) (ci := 1) (v := .ref (kR κ this 11)) (C := RX1) (T := TX1) (N := 13) hx hb hg inX1 hown hK (hT.o3 (hT.k t_this (by decide))).one 0 rfl rfl 11 (by decide) (hg _ k298) (fun _ h9 => h9) rfl dX1_addGains_20 ?_
    rw [erq]
    refine lv_aload_n hx hb dX1_addGains_23 rfl (lv_at hl 3 rfl) ?_
    refine va_get (D := κ.1) (ci := 2) (v := .ref (kR κ sp 9)) (C := RX2) (T := TX2) (N := 10) hx hb hg inX2 hown hK (hT.o2 (hT.k t_sp (by decide))).one 0 rfl rfl 9 (by decide) (hg _ k252) (fun _ h9 => h9) rfl dX1_addGains_24 ?_
    rw [erd]
    obtain ⟨h219, oh219, th219⟩ := hT.o1 (hT.k trq (by decide))
    have hTo := hT
    refine tVv (n := 1) (As := [.ref rd]) (rest := []) hx hb hml hown hg hT hK hX (X4v_copyFrom l κ s211 rq rd  (hT.k trq (by decide)) (hT.k trd (by decide)) wn213) (fun _ _ h => h) (mwV k455 k456 k457 k88 k458) ⟨rfl, by decide, by decide, by decide +kernel⟩ ⟨(Nat.le_of_ble_eq_true rfl), (Nat.le_of_ble_eq_true rfl)⟩ oh219 rfl rfl hl.1 rfl (Nat.le_of_ble_eq_true rfl) dX1_addGains_27 zroom.rf (fun s218 H locs hφ hEs218 hT => ?_)
    obtain ⟨f220, f221⟩ := hφ
    have dt222 := hrp
    have wn223 : WV s218 rd d := f221 rd hrp (hTo.k trd (by decide)) _ wn213
    have mV224 : VLS κ s218 rv N (v) := VLS.fw mV214 f221 (fun i hi => hTo.k (hkv i hi) (by decide)) hvp
    have mD225 : DTL κ s218 ra M dt := DTL.fw mD215 f221 (fun j hj => hTo.k (hkd j hj) (by decide)) hdp
    refine lv_aload_n hx hb dX1_addGains_30 rfl (lv_at hl 2 rfl) ?_
    refine va_get (D := κ.1) (ci := 1) (v := .ref (kR κ this 11)) (C := RX1) (T := TX1) (N := 13) hx hb hg inX1 hown hK (hT.o3 (hT.k t_this (by decide))).one 0 rfl rfl 11 (by decide) (hg _ k298) (fun _ h9 => h9) rfl dX1_addGains_31 ?_
    rw [erq]
    refine lv_aload_n hx hb dX1_addGains_34 rfl (lv_at hl 3 rfl) ?_
    refine va_get (D := κ.1) (ci := 2) (v := .long (zJ s218 sp 5)) (C := RX2) (T := TX2) (N := 10) hx hb hg inX2 hown hK (hT.o2 (hT.k t_sp (by decide))).one 0 rfl rfl 5 (by decide) (hg _ k242) (fun _ h9 => h9) rfl dX1_addGains_35 ?_
    refine lv_topl (fun t226 ht226 => ?_)
    have xt226 : t226.toInt = W := by rw [ht226, show zJ s218 sp 5 = zJ σ0 sp 5 from t_sp.eJ hT.2.2.1 (by decide) rfl]; exact h13
    refine lv_lload_n hx hb dX1_addGains_38 rfl (lv_at hl 1 rfl) ?_
    refine lv_lmul hx hb dX1_addGains_39 ?_
    refine g_mull (by rw [xt226, eE]; omega) (by rw [xt226, eE]; omega) (fun t227 ht227 => ?_)
    rw [xt226, eE] at ht227
    refine lv_lload_n hx hb dX1_addGains_40 rfl (lv_at hl 1 rfl) ?_
    refine lv_lload_n hx hb dX1_addGains_41 rfl (lv_at hl 1 rfl) ?_
    refine lv_lmul hx hb dX1_addGains_42 ?_
    refine g_mull (by rw [eE]; omega) (by rw [eE]; omega) (fun t228 ht228 => ?_)
    rw [eE] at ht228
    refine lv_lload hx hb dX1_addGains_43 (lv_at hl 0 rfl) ?_
    refine lv_lload hx hb dX1_addGains_45 (lv_at hl 0 rfl) ?_
    refine lv_lmul hx hb dX1_addGains_47 ?_
    refine g_mull (by rw [eF]; omega) (by rw [eF]; omega) (fun t229 ht229 => ?_)
    rw [eF] at ht229
    refine lv_ladd hx hb dX1_addGains_48 ?_
    refine g_addl (by omega) (by omega) (fun t230 ht230 => ?_)
    have hX9 : t227.toInt = W * E := ht227
    have hY9 : t230.toInt = E * E + F * F := by omega
    obtain ⟨h233, oh233, th233⟩ := hT.o1 (hT.k trq (by decide))
    have hTo := hT
    refine tVv (n := 2) (As := [.long t227, .long t230]) (rest := []) hx hb hml hown hg hT hK hX (X4v_scale l κ s218 rq t227 t230  (hT.k trq (by decide)) f220 (by omega) (by rw [hX9]; omega) (by rw [hX9]; omega) (by rw [hX9, hY9]; omega) (by rw [hX9, hY9]; omega)) (fun _ _ h => h) (mwV k551 k552 k553 k88 k554) ⟨rfl, by decide, by decide, by decide +kernel⟩ ⟨(Nat.le_of_ble_eq_true rfl), (Nat.le_of_ble_eq_true rfl)⟩ oh233 rfl rfl hl.1 rfl (Nat.le_of_ble_eq_true rfl) dX1_addGains_49 zroom.rf (fun s232 H locs hφ hEs232 hT => ?_)
    obtain ⟨f234, f235⟩ := hφ
    have wn236 : WV s232 rd d := f235 rd hrp (hTo.k trd (by decide)) _ wn223
    have mV237 : VLS κ s232 rv N (v) := VLS.fw mV224 f235 (fun i hi => hTo.k (hkv i hi) (by decide)) hvp
    have mD238 : DTL κ s232 ra M dt := DTL.fw mD225 f235 (fun j hj => hTo.k (hkd j hj) (by decide)) hdp
    have wv239 : WV s232 rq (d * (W * E) / (E * E + F * F)) := by have z9 := f234; rw [hX9, hY9] at z9; exact z9
    refine lv_aload_n hx hb dX1_addGains_52 rfl (lv_at hl 2 rfl) ?_
    refine va_get (D := κ.1) (ci := 1) (v := .ref (kR κ this 1)) (C := RX1) (T := TX1) (N := 13) hx hb hg inX1 hown hK (hT.o3 (hT.k t_this (by decide))).one 0 rfl rfl 1 (by decide) (hg _ k279) (fun _ h9 => h9) rfl dX1_addGains_53 ?_
    rw [erv]
    refine lv_aload_n hx hb dX1_addGains_56 rfl (lv_at hl 3 rfl) ?_
    obtain ⟨v240, ev240⟩ : ∃ zz9 : Int32, zI σ0 sp 1 = zz9 := ⟨_, rfl⟩
    have qv240 : v240.toInt = (zI σ0 sp 1).toInt := by rw [ev240]
    have b241 := (hT.P (hT.k t_sp (by decide)) (by decide)).2.1
    rw [(hT.eI t_sp (by decide) rfl ev240)] at b241
    have b241l := b241.1
    have b241h := b241.2
    refine va_get (D := κ.1) (ci := 2) (v := .int (zI s232 sp 1)) (C := RX2) (T := TX2) (N := 10) hx hb hg inX2 hown hK (hT.o2 (hT.k t_sp (by decide))).one 0 rfl rfl 1 (by decide) (hg _ k232) (fun _ h9 => h9) rfl dX1_addGains_57 ?_
    rw [(hT.eI t_sp (by decide) rfl ev240)]
    refine va_aldq hx hb hK (hT.o10 (hT.k trv (by decide))).one 0 4 rfl rfl (g_in (by omega) (by omega)) dX1_addGains_60 ?_
    obtain ⟨r243, er243⟩ : ∃ z, kR κ rv (ix v240) = z := ⟨_, rfl⟩
    have tr243 : zk σ0 r243 1 := by rw [← er243]; exact hT0.ref trv (by decide) (zR10 (ix_lt (by omega) (by omega))) (by decide)
    refine tv (.ref r243) (by rw [← er243]; rfl) ?_
    have r243i : ix v240 = pa := ixof (by omega)
    have r243e : kR κ rv pa = r243 := by rw [← r243i]; exact er243
    have wr243 : WV s232 r243 (v pa) := by rw [← r243e]; have z9 := mV237 pa (by omega); exact z9
    refine lv_aload_n hx hb dX1_addGains_61 rfl (lv_at hl 2 rfl) ?_
    refine va_get (D := κ.1) (ci := 1) (v := .ref (kR κ this 11)) (C := RX1) (T := TX1) (N := 13) hx hb hg inX1 hown hK (hT.o3 (hT.k t_this (by decide))).one 0 rfl rfl 11 (by decide) (hg _ k298) (fun _ h9 => h9) rfl dX1_addGains_62 ?_
    rw [erq]
    refine lv_iload_n hx hb dX1_addGains_65 rfl (lv_at hl 4 rfl) ?_
    refine lv_i2l hx hb dX1_addGains_66 rfl ?_
    refine g_i2l (fun t244 ht244 => ?_)
    obtain ⟨h247, oh247, th247⟩ := hT.o1 (hT.k tr243 (by decide))
    have hTo := hT
    refine tVv (n := 2) (As := [.ref rq, .long t244]) (rest := []) hx hb hml hown hg hT hK hX (X4v_add l κ s232 r243 rq t244  (hT.k tr243 (by decide)) (hT.k trq (by decide)) wr243 wv239 (by rw [show t244.toInt = 1 from by omega]; omega) (by rw [show t244.toInt = 1 from by omega]; omega) (by rw [show t244.toInt = 1 from by omega]; omega) (by rw [show t244.toInt = 1 from by omega]; omega)) (fun _ _ h => h) (mwV k340 k341 k342 k88 k343) ⟨rfl, by decide, by decide, by decide +kernel⟩ ⟨(Nat.le_of_ble_eq_true rfl), (Nat.le_of_ble_eq_true rfl)⟩ oh247 rfl rfl hl.1 rfl (Nat.le_of_ble_eq_true rfl) dX1_addGains_67 zroom.rf (fun s246 H locs hφ hEs246 hT => ?_)
    obtain ⟨f248, f249⟩ := hφ
    have wv250 : WV s246 r243 (v pa + d * (W * E) / (E * E + F * F)) := by have z9 := f248; rw [show v pa + d * (W * E) / (E * E + F * F) * t244.toInt = v pa + d * (W * E) / (E * E + F * F) from by rw [show t244.toInt = 1 from by omega]; omega] at z9; exact z9
    have wn251 : WV s246 rd d := f249 rd (fun q9 => hrv pa (by omega) (by rw [r243e]; exact q9.symm)) (hTo.k trd (by decide)) _ wn236
    have mV252 : VLS κ s246 rv N (updi (v) pa (v pa + d * (W * E) / (E * E + F * F))) := VLS.up mV237 (by rw [r243e]; exact f249) (by rw [r243e]; exact wv250) (fun i hi => hTo.k (hkv i hi) (by decide)) (fun i hi q9 => hvv i pa hi (by omega) q9)
    have mD253 : DTL κ s246 ra M dt := DTL.fw mD238 f249 (fun j hj => hTo.k (hkd j hj) (by decide)) (fun j hj => by rw [← r243e]; exact hdv pa j (by omega) hj)
    refine lv_aload_n hx hb dX1_addGains_70 rfl (lv_at hl 2 rfl) ?_
    refine va_get (D := κ.1) (ci := 1) (v := .ref (kR κ this 11)) (C := RX1) (T := TX1) (N := 13) hx hb hg inX1 hown hK (hT.o3 (hT.k t_this (by decide))).one 0 rfl rfl 11 (by decide) (hg _ k298) (fun _ h9 => h9) rfl dX1_addGains_71 ?_
    rw [erq]
    refine lv_aload_n hx hb dX1_addGains_74 rfl (lv_at hl 3 rfl) ?_
    refine va_get (D := κ.1) (ci := 2) (v := .ref (kR κ sp 9)) (C := RX2) (T := TX2) (N := 10) hx hb hg inX2 hown hK (hT.o2 (hT.k t_sp (by decide))).one 0 rfl rfl 9 (by decide) (hg _ k252) (fun _ h9 => h9) rfl dX1_addGains_75 ?_
    rw [erd]
    obtain ⟨h256, oh256, th256⟩ := hT.o1 (hT.k trq (by decide))
    have hTo := hT
    refine tVv (n := 1) (As := [.ref rd]) (rest := []) hx hb hml hown hg hT hK hX (X4v_copyFrom l κ s246 rq rd  (hT.k trq (by decide)) (hT.k trd (by decide)) wn251) (fun _ _ h => h) (mwV k455 k456 k457 k88 k458) ⟨rfl, by decide, by decide, by decide +kernel⟩ ⟨(Nat.le_of_ble_eq_true rfl), (Nat.le_of_ble_eq_true rfl)⟩ oh256 rfl rfl hl.1 rfl (Nat.le_of_ble_eq_true rfl) dX1_addGains_78 zroom.rf (fun s255 H locs hφ hEs255 hT => ?_)
    obtain ⟨f257, f258⟩ := hφ
    have dt259 := hrp
    have wn260 : WV s255 rd d := f258 rd hrp (hTo.k trd (by decide)) _ wn251
    have mV261 : VLS κ s255 rv N (updi (v) pa (v pa + d * (W * E) / (E * E + F * F))) := VLS.fw mV252 f258 (fun i hi => hTo.k (hkv i hi) (by decide)) hvp
    have mD262 : DTL κ s255 ra M dt := DTL.fw mD253 f258 (fun j hj => hTo.k (hkd j hj) (by decide)) hdp
    refine lv_aload_n hx hb dX1_addGains_81 rfl (lv_at hl 2 rfl) ?_
    refine va_get (D := κ.1) (ci := 1) (v := .ref (kR κ this 11)) (C := RX1) (T := TX1) (N := 13) hx hb hg inX1 hown hK (hT.o3 (hT.k t_this (by decide))).one 0 rfl rfl 11 (by decide) (hg _ k298) (fun _ h9 => h9) rfl dX1_addGains_82 ?_
    rw [erq]
    refine lv_aload_n hx hb dX1_addGains_85 rfl (lv_at hl 3 rfl) ?_
    refine va_get (D := κ.1) (ci := 2) (v := .long (zJ s255 sp 5)) (C := RX2) (T := TX2) (N := 10) hx hb hg inX2 hown hK (hT.o2 (hT.k t_sp (by decide))).one 0 rfl rfl 5 (by decide) (hg _ k242) (fun _ h9 => h9) rfl dX1_addGains_86 ?_
    refine lv_topl (fun t263 ht263 => ?_)
    have xt263 : t263.toInt = W := by rw [ht263, show zJ s255 sp 5 = zJ σ0 sp 5 from t_sp.eJ hT.2.2.1 (by decide) rfl]; exact h13
    refine lv_lload hx hb dX1_addGains_89 (lv_at hl 0 rfl) ?_
    refine lv_lmul hx hb dX1_addGains_91 ?_
    refine g_mull (by rw [xt263, eF]; omega) (by rw [xt263, eF]; omega) (fun t264 ht264 => ?_)
    rw [xt263, eF] at ht264
    refine lv_lload_n hx hb dX1_addGains_92 rfl (lv_at hl 1 rfl) ?_
    refine lv_lload_n hx hb dX1_addGains_93 rfl (lv_at hl 1 rfl) ?_
    refine lv_lmul hx hb dX1_addGains_94 ?_
    refine g_mull (by rw [eE]; omega) (by rw [eE]; omega) (fun t265 ht265 => ?_)
    rw [eE] at ht265
    refine lv_lload hx hb dX1_addGains_95 (lv_at hl 0 rfl) ?_
    refine lv_lload hx hb dX1_addGains_97 (lv_at hl 0 rfl) ?_
    refine lv_lmul hx hb dX1_addGains_99 ?_
    refine g_mull (by rw [eF]; omega) (by rw [eF]; omega) (fun t266 ht266 => ?_)
    rw [eF] at ht266
    refine lv_ladd hx hb dX1_addGains_100 ?_
    refine g_addl (by omega) (by omega) (fun t267 ht267 => ?_)
    have hX9 : t264.toInt = W * F := ht264
    have hY9 : t267.toInt = E * E + F * F := by omega
    obtain ⟨h270, oh270, th270⟩ := hT.o1 (hT.k trq (by decide))
    have hTo := hT
    refine tVv (n := 2) (As := [.long t264, .long t267]) (rest := []) hx hb hml hown hg hT hK hX (X4v_scale l κ s255 rq t264 t267  (hT.k trq (by decide)) f257 (by omega) (by rw [hX9]; omega) (by rw [hX9]; omega) (by rw [hX9, hY9]; omega) (by rw [hX9, hY9]; omega)) (fun _ _ h => h) (mwV k551 k552 k553 k88 k554) ⟨rfl, by decide, by decide, by decide +kernel⟩ ⟨(Nat.le_of_ble_eq_true rfl), (Nat.le_of_ble_eq_true rfl)⟩ oh270 rfl rfl hl.1 rfl (Nat.le_of_ble_eq_true rfl) dX1_addGains_101 zroom.rf (fun s269 H locs hφ hEs269 hT => ?_)
    obtain ⟨f271, f272⟩ := hφ
    have wn273 : WV s269 rd d := f272 rd hrp (hTo.k trd (by decide)) _ wn260
    have mV274 : VLS κ s269 rv N (updi (v) pa (v pa + d * (W * E) / (E * E + F * F))) := VLS.fw mV261 f272 (fun i hi => hTo.k (hkv i hi) (by decide)) hvp
    have mD275 : DTL κ s269 ra M dt := DTL.fw mD262 f272 (fun j hj => hTo.k (hkd j hj) (by decide)) hdp
    have wv276 : WV s269 rq (d * (W * F) / (E * E + F * F)) := by have z9 := f271; rw [hX9, hY9] at z9; exact z9
    refine lv_aload_n hx hb dX1_addGains_104 rfl (lv_at hl 2 rfl) ?_
    refine va_get (D := κ.1) (ci := 1) (v := .ref (kR κ this 1)) (C := RX1) (T := TX1) (N := 13) hx hb hg inX1 hown hK (hT.o3 (hT.k t_this (by decide))).one 0 rfl rfl 1 (by decide) (hg _ k279) (fun _ h9 => h9) rfl dX1_addGains_105 ?_
    rw [erv]
    refine lv_aload_n hx hb dX1_addGains_108 rfl (lv_at hl 3 rfl) ?_
    obtain ⟨v277, ev277⟩ : ∃ zz9 : Int32, zI σ0 sp 2 = zz9 := ⟨_, rfl⟩
    have qv277 : v277.toInt = (zI σ0 sp 2).toInt := by rw [ev277]
    have b278 := (hT.P (hT.k t_sp (by decide)) (by decide)).2.2.1
    rw [(hT.eI t_sp (by decide) rfl ev277)] at b278
    have b278l := b278.1
    have b278h := b278.2
    refine va_get (D := κ.1) (ci := 2) (v := .int (zI s269 sp 2)) (C := RX2) (T := TX2) (N := 10) hx hb hg inX2 hown hK (hT.o2 (hT.k t_sp (by decide))).one 0 rfl rfl 2 (by decide) (hg _ k235) (fun _ h9 => h9) rfl dX1_addGains_109 ?_
    rw [(hT.eI t_sp (by decide) rfl ev277)]
    refine va_aldq hx hb hK (hT.o10 (hT.k trv (by decide))).one 0 4 rfl rfl (g_in (by omega) (by omega)) dX1_addGains_112 ?_
    obtain ⟨r280, er280⟩ : ∃ z, kR κ rv (ix v277) = z := ⟨_, rfl⟩
    have tr280 : zk σ0 r280 1 := by rw [← er280]; exact hT0.ref trv (by decide) (zR10 (ix_lt (by omega) (by omega))) (by decide)
    refine tv (.ref r280) (by rw [← er280]; rfl) ?_
    have r280i : ix v277 = q := ixof (by omega)
    have r280e : kR κ rv q = r280 := by rw [← r280i]; exact er280
    have wr280 : WV s269 r280 (v q) := by rw [← r280e]; have z9 := mV274 q (by omega); rw [updi_o (show q ≠ pa by omega)] at z9; exact z9
    refine lv_aload_n hx hb dX1_addGains_113 rfl (lv_at hl 2 rfl) ?_
    refine va_get (D := κ.1) (ci := 1) (v := .ref (kR κ this 11)) (C := RX1) (T := TX1) (N := 13) hx hb hg inX1 hown hK (hT.o3 (hT.k t_this (by decide))).one 0 rfl rfl 11 (by decide) (hg _ k298) (fun _ h9 => h9) rfl dX1_addGains_114 ?_
    rw [erq]
    refine lv_iload_n hx hb dX1_addGains_117 rfl (lv_at hl 4 rfl) ?_
    refine lv_i2l hx hb dX1_addGains_118 rfl ?_
    refine g_i2l (fun t281 ht281 => ?_)
    obtain ⟨h284, oh284, th284⟩ := hT.o1 (hT.k tr280 (by decide))
    have hTo := hT
    refine tVv (n := 2) (As := [.ref rq, .long t281]) (rest := []) hx hb hml hown hg hT hK hX (X4v_add l κ s269 r280 rq t281  (hT.k tr280 (by decide)) (hT.k trq (by decide)) wr280 wv276 (by rw [show t281.toInt = 1 from by omega]; omega) (by rw [show t281.toInt = 1 from by omega]; omega) (by rw [show t281.toInt = 1 from by omega]; omega) (by rw [show t281.toInt = 1 from by omega]; omega)) (fun _ _ h => h) (mwV k340 k341 k342 k88 k343) ⟨rfl, by decide, by decide, by decide +kernel⟩ ⟨(Nat.le_of_ble_eq_true rfl), (Nat.le_of_ble_eq_true rfl)⟩ oh284 rfl rfl hl.1 rfl (Nat.le_of_ble_eq_true rfl) dX1_addGains_119 zroom.rf (fun s283 H locs hφ hEs283 hT => ?_)
    obtain ⟨f285, f286⟩ := hφ
    have wv287 : WV s283 r280 (v q + d * (W * F) / (E * E + F * F)) := by have z9 := f285; rw [show v q + d * (W * F) / (E * E + F * F) * t281.toInt = v q + d * (W * F) / (E * E + F * F) from by rw [show t281.toInt = 1 from by omega]; omega] at z9; exact z9
    have wn288 : WV s283 rd d := f286 rd (fun q9 => hrv q (by omega) (by rw [r280e]; exact q9.symm)) (hTo.k trd (by decide)) _ wn273
    have mV289 : VLS κ s283 rv N (updi (updi (v) pa (v pa + d * (W * E) / (E * E + F * F))) q (v q + d * (W * F) / (E * E + F * F))) := VLS.up mV274 (by rw [r280e]; exact f286) (by rw [r280e]; exact wv287) (fun i hi => hTo.k (hkv i hi) (by decide)) (fun i hi q9 => hvv i q hi (by omega) q9)
    have mD290 : DTL κ s283 ra M dt := DTL.fw mD275 f286 (fun j hj => hTo.k (hkd j hj) (by decide)) (fun j hj => by rw [← r280e]; exact hdv q j (by omega) hj)
    subst hQ9
    exact t_v hx hb hr hlocks hT ⟨by rw [gan_c (show u ≠ 0 from by omega), gan_c (show u ≠ 0 from by omega), fe, erv]; have z9 := mV289; exact z9, by rw [era]; exact mD290, by rw [erd]; exact wn288⟩ dX1_addGains_122
  · have c2 := gi_eq c9
    subst hQ9
    exact t_v hx hb hr hlocks hT ⟨h0.same (upd_id (by rw [show u = 0 from by omega, gan_0]; omega) (by rw [show u = 0 from by omega, gan_0]; omega)), h1, h4⟩ dX1_addGains_7
