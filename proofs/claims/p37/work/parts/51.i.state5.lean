/-! States with their numbers: one lift -/
theorem sub_fE_fLv : ∀ t k, fLv t k = false → fE t k = false := by
  intro t k h
  simp [fE, fLv] at h ⊢ <;> omega
theorem sub_fX_fLv : ∀ t k, fLv t k = false → fX t k = false := by
  intro t k h
  simp [fX, fLv] at h ⊢ <;> omega
set_option maxHeartbeats 4000000 in
set_option maxRecDepth 100000 in
theorem X1v_liftSample (l : Launch) (κ : Kt) (σ0 : Gh) (this : Nat) (i : Int32) {N : Nat} {P v w l dt : Nat → Int} {rl u : Int} {m k p q : Nat} (t_this : zk σ0 this 3) (h0 : SST κ σ0 this N P (v, w, l, dt, m)) (h1 : PLI N P) (h2 : DW κ this) (h3 : PIV N P rl (v, w, l, dt, m)) (h4 : i.toInt = k) (h5 : l k = -1) (h6 : LN l k p) (h7 : RN N l k q) (h8 : m ≤ 45) (h9 : (zI σ0 this 8).toInt = rl) (h10 : rl = 0 ∨ rl = 1 ∨ rl = 2) (h11 : (zI σ0 this 9).toInt = u) : TC l yX1_liftSample cX1_liftSample 5 (some .long) 3 76 [.ref this, .int i] κ σ0 (tql κ fLv σ0 (fun (r : Int64) (τ : Gh) => (SST κ τ this N P (lft P rl u (v, w, l, dt, m) k p q)))) := by
  refine TC.of fLv (by decide +kernel) (Nat.le_of_ble_eq_true rfl) ?_
  intro p e s m below meth c ls hcs hK hX hT hl
  obtain ⟨hx, hb, hr, hml, hown, hg, hlocks, hin⟩ := hcs
  have hown : s.vm.findClass RX1 = some m.cls := hown
  have hl : lv_has ls 5 [(0, .ref this), (1, .int i)] := hl
  have hT0 := hT
  have nm1 : ((-1) : Int32).toInt = (-1) := by decide
  have n1 : (1 : Int32).toInt = 1 := by decide
  have n46 : (46 : Int32).toInt = 46 := by decide
  have jm1 : ((-1) : Int64).toInt = (-1) := by decide
  have i_lo := Int32.le_toInt i
  have i_hi := Int32.toInt_lt i
  generalize hQ9 : tQ _ _ _ _ _ _ = Q9
  obtain ⟨src, esrc⟩ : ∃ z, kR κ this 0 = z := ⟨_, rfl⟩
  have tsrc : zk σ0 src 4 := by rw [← esrc]; exact hT0.ref t_this (by decide) (by decide) (by decide)
  have bsrc := (hT0.P tsrc (by decide)).1
  have bsrcl := bsrc.1
  have bsrch := bsrc.2
  obtain ⟨rp, erp⟩ : ∃ z, kR κ src 0 = z := ⟨_, rfl⟩
  have trp : zk σ0 rp 8 := by rw [← erp]; exact hT0.ref tsrc (by decide) (by decide) (by decide)
  obtain ⟨rv, erv⟩ : ∃ z, kR κ this 1 = z := ⟨_, rfl⟩
  have trv : zk σ0 rv 10 := by rw [← erv]; exact hT0.ref t_this (by decide) (by decide) (by decide)
  obtain ⟨rg, erg⟩ : ∃ z, kR κ this 2 = z := ⟨_, rfl⟩
  have trg : zk σ0 rg 9 := by rw [← erg]; exact hT0.ref t_this (by decide) (by decide) (by decide)
  obtain ⟨rs, ers⟩ : ∃ z, kR κ this 3 = z := ⟨_, rfl⟩
  have trs : zk σ0 rs 15 := by rw [← ers]; exact hT0.ref t_this (by decide) (by decide) (by decide)
  obtain ⟨ra, era⟩ : ∃ z, kR κ this 4 = z := ⟨_, rfl⟩
  have tra : zk σ0 ra 11 := by rw [← era]; exact hT0.ref t_this (by decide) (by decide) (by decide)
  obtain ⟨rq, erq⟩ : ∃ z, kR κ this 11 = z := ⟨_, rfl⟩
  have trq : zk σ0 rq 1 := by rw [← erq]; exact hT0.ref t_this (by decide) (by decide) (by decide)
  have hSR : SRC κ σ0 this N P := h0.1
  have hN := hSR.1
  have hPS := hSR.2
  rw [esrc] at hN hPS
  rw [erp] at hPS
  have hP48 : N ≤ 48 := by omega
  have hVL : VLS κ σ0 (kR κ this 1) N v := h0.2.1
  rw [erv] at hVL
  have hWt : ∀ j, j < N → (zJ σ0 (kR κ this 2) j).toInt = w j := h0.2.2.1
  have hWg := hWt
  rw [erg] at hWg
  have hLm : ∀ j, j < N → (zI σ0 (kR κ this 3) j).toInt = l j := h0.2.2.2.1
  have hLs := hLm
  rw [ers] at hLs
  have hDL : DTL κ σ0 (kR κ this 4) m dt := h0.2.2.2.2.1
  rw [era] at hDL
  have hM5 : (zI σ0 this 5).toInt = m := h0.2.2.2.2.2
  have hkv : ∀ i, i < N → zk σ0 (kR κ rv i) 1 := fun i hi => hT0.kv trv (by omega)
  have hkd : ∀ j, j < m → zk σ0 (kR κ (kR κ ra j) 9) 1 := fun j hj => hT0.kd tra (by omega)
  have hpk := h6.1
  have hkq := h7.1.1
  have hqN := h7.1.2
  have ei := ixof h4
  have hvp : ∀ i, i < N → kR κ rv i ≠ rq := fun i hi => by rw [← erv, ← erq]; exact h2.vp (by omega)
  have hdp : ∀ j, j < m → kR κ (kR κ ra j) 9 ≠ rq := fun j hj => by rw [← era, ← erq]; exact h2.dp (by omega)
  obtain ⟨s9, es9⟩ : ∃ z, z = shr P w rl k p q := ⟨_, rfl⟩
  obtain ⟨E, eE⟩ : ∃ z, z = w p + s9 := ⟨_, rfl⟩
  obtain ⟨F, eF⟩ : ∃ z, z = w q + w k - s9 := ⟨_, rfl⟩
  obtain ⟨d, eD⟩ : ∃ z, z = v k - prd P v rl k p q := ⟨_, rfl⟩
  obtain ⟨⟨n1a, n1b⟩, ⟨n2a, n2b, n2c, n2d⟩, n3, n4, n5, n6⟩ := h3.num h1 h10 (by omega) h5 h6 h7 es9 eE eF eD
  have bk := (h1 k (by omega)).1
  have opk := h1.lt hpk (by omega)
  have okq := h1.lt hkq hqN
  have sk := h3.small (by omega) (show k < N by omega) h5
  have sp_ := h3.small (by omega) (show p < N by omega) h6.2.1
  have sq_ := h3.small (by omega) hqN h7.2.1
  have hpr := prd_in (v := v) (r := rl) (k := k) opk okq (B := 1114000000) sp_ sq_
  obtain ⟨v1, ev1⟩ : ∃ zz9 : Int32, zI σ0 this 5 = zz9 := ⟨_, rfl⟩
  have qv1 : v1.toInt = (zI σ0 this 5).toInt := by rw [ev1]
  have b2 := (hT.P (hT.k t_this (by decide)) (by decide)).1
  rw [ev1] at b2
  have b2l := b2.1
  have b2h := b2.2
  refine lv_aload_n hx hb dX1_liftSample_0 rfl (lv_at hl 0 rfl) ?_
  refine lv_iload_n hx hb dX1_liftSample_1 rfl (lv_at hl 1 rfl) ?_
  have hTo := hT
  refine tVi (n := 1) (As := [.int i]) (rest := []) hx hb hml hown hg hT hK hX (X1v_leftOf l κ σ0 this i  (hT.k t_this (by decide)) (by omega) (by omega)) sub_fE_fLv (mwV k574 k575 k576 k87 k577) ⟨rfl, by decide, by decide, by decide +kernel⟩ ⟨(Nat.le_of_ble_eq_true rfl), (Nat.le_of_ble_eq_true rfl)⟩ (hT.o3 (hT.k t_this (by decide))) rfl rfl hl.1 rfl (Nat.le_of_ble_eq_true rfl) dX1_liftSample_2 zroom.rf (fun x3 s4 H locs hφ hEs4 hT => ?_)
  have ev1 : zI s4 this 5 = v1 := ((hTo.k t_this (by decide)).eI hEs4 (by decide) rfl).trans ev1
  have Y5 : ∀ j, j < N → (zI s4 rs j).toInt = l j := by first | (rw [show zI s4 rs = zI σ0 rs from funext fun k => (hTo.k trs (by decide)).eI hEs4 (by decide) rfl]; exact hLs) | rw [show zI s4 rs = zI σ0 rs from funext fun k => (hTo.k trs (by decide)).eI hEs4 (by decide) rfl]
  have fa6 : FA σ0 s4 := FA.ro hTo hEs4 (fun _ => rfl) (fun _ _ => rfl)
  have mV7 : VLS κ s4 rv N (v) := VLS.fa hVL fa6 (fun i hi => hTo.k (hkv i hi) (by decide))
  have mD8 : DTL κ s4 ra m dt := DTL.fa hDL fa6 (fun j hj => hTo.k (hkd j hj) (by decide))
  have Z9 : ∀ j, j < N → (zJ s4 rg j).toInt = w j := by rw [show zJ s4 rg = zJ σ0 rg from funext fun k => (hTo.k trg (by decide)).eJ hEs4 (by decide) rfl]; exact hWg
  have f10 := hφ
  have xl : x3.toInt = p := by
    rcases f10 with ⟨-, f9⟩ | ⟨p9, f8, f9⟩
    · exact absurd ((hLm p (by omega)).trans h6.2.1) (f9 p (by rw [ei]; exact hpk))
    · rw [ei] at f9
      rw [f8, (f9.cg (l' := l) (fun j hj => (hLm j (by omega)).symm)).one h6]
  refine lv_istore_n (lv' := [(2, .int x3), (0, .ref this), (1, .int i)]) hx hb dX1_liftSample_5 rfl hl (by decide) rfl (fun ls hl => ?_)
  refine lv_aload_n hx hb dX1_liftSample_6 rfl (lv_at hl 1 rfl) ?_
  refine lv_iload_n hx hb dX1_liftSample_7 rfl (lv_at hl 2 rfl) ?_
  have hTo := hT
  refine tVi (n := 1) (As := [.int i]) (rest := []) hx hb hml hown hg hT hK hX (X1v_rightOf l κ s4 this i  (hT.k t_this (by decide)) (by omega) (by omega)) sub_fE_fLv (mwV k578 k579 k580 k87 k581) ⟨rfl, by decide, by decide, by decide +kernel⟩ ⟨(Nat.le_of_ble_eq_true rfl), (Nat.le_of_ble_eq_true rfl)⟩ (hT.o3 (hT.k t_this (by decide))) rfl rfl hl.1 rfl (Nat.le_of_ble_eq_true rfl) dX1_liftSample_8 zroom.rf (fun x11 s12 H locs hφ hEs12 hT => ?_)
  have ev1 : zI s12 this 5 = v1 := ((hTo.k t_this (by decide)).eI hEs12 (by decide) rfl).trans ev1
  have Y13 : ∀ j, j < N → (zI s12 rs j).toInt = l j := by first | (rw [show zI s12 rs = zI s4 rs from funext fun k => (hTo.k trs (by decide)).eI hEs12 (by decide) rfl]; exact Y5) | rw [show zI s12 rs = zI s4 rs from funext fun k => (hTo.k trs (by decide)).eI hEs12 (by decide) rfl]
  have fa14 : FA s4 s12 := FA.ro hTo hEs12 (fun _ => rfl) (fun _ _ => rfl)
  have mV15 : VLS κ s12 rv N (v) := VLS.fa mV7 fa14 (fun i hi => hTo.k (hkv i hi) (by decide))
  have mD16 : DTL κ s12 ra m dt := DTL.fa mD8 fa14 (fun j hj => hTo.k (hkd j hj) (by decide))
  have Z17 : ∀ j, j < N → (zJ s12 rg j).toInt = w j := by rw [show zJ s12 rg = zJ s4 rg from funext fun k => (hTo.k trg (by decide)).eJ hEs12 (by decide) rfl]; exact Z9
  have f18 := hφ
  have hl8 : ∀ j, j < N → (zI s4 (kR κ this 3) j).toInt = l j := fun j hj => by rw [ers]; exact Y5 j hj
  have hn8 : (zI s4 (kR κ this 0) 2).toInt.toNat = N := by rw [esrc, show zI s4 src 2 = zI σ0 src 2 from tsrc.eI hTo.2.2.1 (by decide) rfl]; omega
  rw [hn8] at f18
  have xr : x11.toInt = q := by
    rcases f18 with ⟨-, f9⟩ | ⟨q9, f8, f9⟩
    · exact absurd ((hl8 q hqN).trans h7.2.1) (f9 q (by rw [ei]; exact hkq) hqN)
    · rw [ei] at f9
      rw [f8, (f9.cg (l' := l) (fun j hj => (hl8 j hj).symm)).one h7]
  refine lv_istore_n (lv' := [(3, .int x11), (2, .int x3), (0, .ref this), (1, .int i)]) hx hb dX1_liftSample_11 rfl hl (by decide) rfl (fun ls hl => ?_)
  refine lv_iload_n hx hb dX1_liftSample_12 rfl (lv_at hl 1 rfl) ?_
  refine lv_iconst (v := (-1)) hx hb dX1_liftSample_13 (by decide) ?_
  refine lv_icmp_eq (tgt := 31) hx hb dX1_liftSample_14 (by decide) (fun c9 => ?_) (fun c9 => ?_)
  · have c1 := gi_eq c9
    exfalso; omega
  · have c2 := gi_ne c9
    refine lv_iload_n hx hb dX1_liftSample_17 rfl (lv_at hl 0 rfl) ?_
    refine lv_iconst (v := (-1)) hx hb dX1_liftSample_18 (by decide) ?_
    refine lv_icmp_eq (tgt := 31) hx hb dX1_liftSample_19 (by decide) (fun c9 => ?_) (fun c9 => ?_)
    · have c3 := gi_eq c9
      exfalso; omega
    · have c4 := gi_ne c9
      refine lv_aload_n hx hb dX1_liftSample_22 rfl (lv_at hl 2 rfl) ?_
      refine va_get (D := κ.1) (ci := 1) (v := .int (zI s12 this 5)) (C := RX1) (T := TX1) (N := 13) hx hb hg inX1 hown hK (hT.o3 (hT.k t_this (by decide))).one 0 rfl rfl 5 (by decide) (hg _ k287) (fun _ h9 => h9) rfl dX1_liftSample_23 ?_
      rw [ev1]
      refine lv_bipush (v := 46) hx hb dX1_liftSample_26 (by decide) ?_
      refine lv_icmp_lt (tgt := 33) hx hb dX1_liftSample_28 (by decide) (fun c9 => ?_) (fun c9 => ?_)
      · have c5 := gi_lt c9
        refine lv_aload_n hx hb dX1_liftSample_33 rfl (lv_at hl 2 rfl) ?_
        refine va_get (D := κ.1) (ci := 1) (v := .ref (kR κ this 4)) (C := RX1) (T := TX1) (N := 13) hx hb hg inX1 hown hK (hT.o3 (hT.k t_this (by decide))).one 0 rfl rfl 4 (by decide) (hg _ k285) (fun _ h9 => h9) rfl dX1_liftSample_34 ?_
        rw [era]
        refine lv_aload_n hx hb dX1_liftSample_37 rfl (lv_at hl 2 rfl) ?_
        refine va_get (D := κ.1) (ci := 1) (v := .int (zI s12 this 5)) (C := RX1) (T := TX1) (N := 13) hx hb hg inX1 hown hK (hT.o3 (hT.k t_this (by decide))).one 0 rfl rfl 5 (by decide) (hg _ k287) (fun _ h9 => h9) rfl dX1_liftSample_38 ?_
        rw [ev1]
        refine va_aldq hx hb hK (hT.o11 (hT.k tra (by decide))).one 0 5 rfl rfl (g_in (by omega) (by omega)) dX1_liftSample_41 ?_
        obtain ⟨r20, er20⟩ : ∃ z, kR κ ra (ix v1) = z := ⟨_, rfl⟩
        have tr20 : zk σ0 r20 2 := by rw [← er20]; exact hT0.ref tra (by decide) (zR11 (ix_lt (by omega) (by omega))) (by decide)
        refine tv (.ref r20) (by rw [← er20]; rfl) ?_
        have hsp0 : ix v1 = m := ixof (by omega)
        have hsp : kR κ ra m = r20 := by rw [← hsp0]; exact er20
        obtain ⟨sp, esp⟩ : ∃ z, r20 = z := ⟨_, rfl⟩
        rw [esp] at hsp
        refine tv (.ref sp) (by rw [← esp]) ?_
        have tsp : zk σ0 sp 2 := by rw [← esp]; exact tr20
        obtain ⟨rd, erd⟩ : ∃ z, kR κ sp 9 = z := ⟨_, rfl⟩
        have trd : zk σ0 rd 1 := by rw [← erd]; exact hT0.ref tsp (by decide) (by decide) (by decide)
        have erm : kR κ (kR κ ra m) 9 = rd := by rw [hsp]; exact erd
        have hvd : ∀ i, i < N → kR κ rv i ≠ rd := fun i hi => by rw [← erm, ← erv, ← era]; exact h2.vd (by omega) (by omega)
        have hdd : ∀ j, j < m → kR κ (kR κ ra j) 9 ≠ rd := fun j hj q9 => by have z9 := h2.dd (i := j) (j := m) (by omega) (by omega) (by rw [era, erm]; exact q9); omega
        have hdq : rd ≠ rq := by rw [← erm, ← era, ← erq]; exact h2.dp (by omega)
        refine lv_astore (lv' := [(4, .ref sp), (3, .int x11), (2, .int x3), (0, .ref this), (1, .int i)]) hx hb dX1_liftSample_42 hl (by decide) rfl (fun ls hl => ?_)
        refine lv_aload hx hb dX1_liftSample_44 (lv_at hl 0 rfl) ?_
        refine lv_iload_n hx hb dX1_liftSample_46 rfl (lv_at hl 4 rfl) ?_
        have hTo := hT
        refine pf2_0 hx hb hg hown hK hT (hT.k tsp (by decide)) rfl ⟨by omega, by omega⟩ (hg _ k229) dX1_liftSample_47 (fun H locs s21 hus21 hT => ?_)
        have ev1 : zI s21 this 5 = v1 := (zput_o hus21 (Or.inr (by decide))).trans ev1
        have Y22 : ∀ j, j < N → (zI s21 rs j).toInt = l j := by first | (rw [show zI s21 rs = zI s12 rs from zput_Io hus21 ((hTo.k trs (by decide)).ne (hTo.k tsp (by decide)) (by decide))]; exact Y13) | rw [show zI s21 rs = zI s12 rs from zput_Io hus21 ((hTo.k trs (by decide)).ne (hTo.k tsp (by decide)) (by decide))]
        have fa23 : FA s12 s21 := FA.put hTo (hTo.k tsp (by decide)) (by decide) (by decide) hus21
        have mV24 : VLS κ s21 rv N (v) := VLS.fa mV15 fa23 (fun i hi => hTo.k (hkv i hi) (by decide))
        have mD25 : DTL κ s21 ra m dt := DTL.fa mD16 fa23 (fun j hj => hTo.k (hkd j hj) (by decide))
        have Z26 : ∀ j, j < N → (zJ s21 rg j).toInt = w j := by rw [show zJ s21 rg = zJ s12 rg from (zput_J hus21)]; exact Z17
        have e27 : zI s21 sp 0 = i := zput_at hus21
        refine lv_aload hx hb dX1_liftSample_50 (lv_at hl 0 rfl) ?_
        refine lv_iload_n hx hb dX1_liftSample_52 rfl (lv_at hl 2 rfl) ?_
        have hTo := hT
        refine pf2_1 hx hb hg hown hK hT (hT.k tsp (by decide)) rfl ⟨by omega, by omega⟩ (hg _ k232) dX1_liftSample_53 (fun H locs s28 hus28 hT => ?_)
        have ev1 : zI s28 this 5 = v1 := (zput_o hus28 (Or.inr (by decide))).trans ev1
        have e27 : zI s28 sp 0 = i := (zput_o hus28 (Or.inr (by decide))).trans e27
        have Y29 : ∀ j, j < N → (zI s28 rs j).toInt = l j := by first | (rw [show zI s28 rs = zI s21 rs from zput_Io hus28 ((hTo.k trs (by decide)).ne (hTo.k tsp (by decide)) (by decide))]; exact Y22) | rw [show zI s28 rs = zI s21 rs from zput_Io hus28 ((hTo.k trs (by decide)).ne (hTo.k tsp (by decide)) (by decide))]
        have fa30 : FA s21 s28 := FA.put hTo (hTo.k tsp (by decide)) (by decide) (by decide) hus28
        have mV31 : VLS κ s28 rv N (v) := VLS.fa mV24 fa30 (fun i hi => hTo.k (hkv i hi) (by decide))
        have mD32 : DTL κ s28 ra m dt := DTL.fa mD25 fa30 (fun j hj => hTo.k (hkd j hj) (by decide))
        have Z33 : ∀ j, j < N → (zJ s28 rg j).toInt = w j := by rw [show zJ s28 rg = zJ s21 rg from (zput_J hus28)]; exact Z26
        have e34 : zI s28 sp 1 = x3 := zput_at hus28
        refine lv_aload hx hb dX1_liftSample_56 (lv_at hl 0 rfl) ?_
        refine lv_iload_n hx hb dX1_liftSample_58 rfl (lv_at hl 1 rfl) ?_
        have hTo := hT
        refine pf2_2 hx hb hg hown hK hT (hT.k tsp (by decide)) rfl ⟨by omega, by omega⟩ (hg _ k235) dX1_liftSample_59 (fun H locs s35 hus35 hT => ?_)
        have ev1 : zI s35 this 5 = v1 := (zput_o hus35 (Or.inr (by decide))).trans ev1
        have e27 : zI s35 sp 0 = i := (zput_o hus35 (Or.inr (by decide))).trans e27
        have e34 : zI s35 sp 1 = x3 := (zput_o hus35 (Or.inr (by decide))).trans e34
        have Y36 : ∀ j, j < N → (zI s35 rs j).toInt = l j := by first | (rw [show zI s35 rs = zI s28 rs from zput_Io hus35 ((hTo.k trs (by decide)).ne (hTo.k tsp (by decide)) (by decide))]; exact Y29) | rw [show zI s35 rs = zI s28 rs from zput_Io hus35 ((hTo.k trs (by decide)).ne (hTo.k tsp (by decide)) (by decide))]
        have fa37 : FA s28 s35 := FA.put hTo (hTo.k tsp (by decide)) (by decide) (by decide) hus35
        have mV38 : VLS κ s35 rv N (v) := VLS.fa mV31 fa37 (fun i hi => hTo.k (hkv i hi) (by decide))
        have mD39 : DTL κ s35 ra m dt := DTL.fa mD32 fa37 (fun j hj => hTo.k (hkd j hj) (by decide))
        have Z40 : ∀ j, j < N → (zJ s35 rg j).toInt = w j := by rw [show zJ s35 rg = zJ s28 rg from (zput_J hus35)]; exact Z33
        have e41 : zI s35 sp 2 = x11 := zput_at hus35
        refine lv_aload hx hb dX1_liftSample_62 (lv_at hl 0 rfl) ?_
        refine lv_aload_n hx hb dX1_liftSample_64 rfl (lv_at hl 3 rfl) ?_
        refine va_get (D := κ.1) (ci := 1) (v := .ref (kR κ this 2)) (C := RX1) (T := TX1) (N := 13) hx hb hg inX1 hown hK (hT.o3 (hT.k t_this (by decide))).one 0 rfl rfl 2 (by decide) (hg _ k281) (fun _ h9 => h9) rfl dX1_liftSample_65 ?_
        rw [erg]
        refine lv_iload_n hx hb dX1_liftSample_68 rfl (lv_at hl 2 rfl) ?_
        refine va_lald hx hb hK (hT.o9 (hT.k trg (by decide))).one 0 1 rfl rfl (g_in (by omega) (by omega)) dX1_liftSample_69 ?_
        refine lv_topl (fun t42 ht42 => ?_)
        have xt42 : t42.toInt = w p := by rw [ht42, show ix x3 = p from ixof (by omega)]; exact Z40 p (by omega)
        have hTo := hT
        refine pf2_3 hx hb hg hown hK hT (hT.k tsp (by decide)) rfl (hg _ k237) dX1_liftSample_70 (fun H locs s43 hus43 hT => ?_)
        have ev1 : zI s43 this 5 = v1 := by rw [zpul_I hus43]; exact ev1
        have e27 : zI s43 sp 0 = i := by rw [zpul_I hus43]; exact e27
        have e34 : zI s43 sp 1 = x3 := by rw [zpul_I hus43]; exact e34
        have e41 : zI s43 sp 2 = x11 := by rw [zpul_I hus43]; exact e41
        have Y44 : ∀ j, j < N → (zI s43 rs j).toInt = l j := by first | (rw [show zI s43 rs = zI s35 rs from (zpul_I hus43)]; exact Y36) | rw [show zI s43 rs = zI s35 rs from (zpul_I hus43)]
        have jz45 : zJ s43 sp 3 = t42 := zpul_at hus43
        have fa46 : FA s35 s43 := FA.pul hus43
        have mV47 : VLS κ s43 rv N (v) := VLS.fa mV38 fa46 (fun i hi => hTo.k (hkv i hi) (by decide))
        have mD48 : DTL κ s43 ra m dt := DTL.fa mD39 fa46 (fun j hj => hTo.k (hkd j hj) (by decide))
        have Z49 : ∀ j, j < N → (zJ s43 rg j).toInt = w j := by rw [show zJ s43 rg = zJ s35 rg from zpul_Jo hus43 ((hTo.k trg (by decide)).ne (hTo.k tsp (by decide)) (by decide))]; exact Z40
        refine lv_aload hx hb dX1_liftSample_73 (lv_at hl 0 rfl) ?_
        refine lv_aload_n hx hb dX1_liftSample_75 rfl (lv_at hl 3 rfl) ?_
        refine va_get (D := κ.1) (ci := 1) (v := .ref (kR κ this 2)) (C := RX1) (T := TX1) (N := 13) hx hb hg inX1 hown hK (hT.o3 (hT.k t_this (by decide))).one 0 rfl rfl 2 (by decide) (hg _ k281) (fun _ h9 => h9) rfl dX1_liftSample_76 ?_
        rw [erg]
        refine lv_iload_n hx hb dX1_liftSample_79 rfl (lv_at hl 1 rfl) ?_
        refine va_lald hx hb hK (hT.o9 (hT.k trg (by decide))).one 0 1 rfl rfl (g_in (by omega) (by omega)) dX1_liftSample_80 ?_
        refine lv_topl (fun t50 ht50 => ?_)
        have xt50 : t50.toInt = w q := by rw [ht50, show ix x11 = q from ixof (by omega)]; exact Z49 q (by omega)
        have hTo := hT
        refine pf2_4 hx hb hg hown hK hT (hT.k tsp (by decide)) rfl (hg _ k239) dX1_liftSample_81 (fun H locs s51 hus51 hT => ?_)
        have ev1 : zI s51 this 5 = v1 := by rw [zpul_I hus51]; exact ev1
        have e27 : zI s51 sp 0 = i := by rw [zpul_I hus51]; exact e27
        have e34 : zI s51 sp 1 = x3 := by rw [zpul_I hus51]; exact e34
        have e41 : zI s51 sp 2 = x11 := by rw [zpul_I hus51]; exact e41
        have Y52 : ∀ j, j < N → (zI s51 rs j).toInt = l j := by first | (rw [show zI s51 rs = zI s43 rs from (zpul_I hus51)]; exact Y44) | rw [show zI s51 rs = zI s43 rs from (zpul_I hus51)]
        have jz53 : zJ s51 sp 3 = t42 := (zpul_o hus51 (Or.inr (by decide))).trans jz45
        have jz54 : zJ s51 sp 4 = t50 := zpul_at hus51
        have fa55 : FA s43 s51 := FA.pul hus51
        have mV56 : VLS κ s51 rv N (v) := VLS.fa mV47 fa55 (fun i hi => hTo.k (hkv i hi) (by decide))
        have mD57 : DTL κ s51 ra m dt := DTL.fa mD48 fa55 (fun j hj => hTo.k (hkd j hj) (by decide))
        have Z58 : ∀ j, j < N → (zJ s51 rg j).toInt = w j := by rw [show zJ s51 rg = zJ s43 rg from zpul_Jo hus51 ((hTo.k trg (by decide)).ne (hTo.k tsp (by decide)) (by decide))]; exact Z49
        refine lv_aload hx hb dX1_liftSample_84 (lv_at hl 0 rfl) ?_
        refine lv_aload_n hx hb dX1_liftSample_86 rfl (lv_at hl 3 rfl) ?_
        refine va_get (D := κ.1) (ci := 1) (v := .ref (kR κ this 2)) (C := RX1) (T := TX1) (N := 13) hx hb hg inX1 hown hK (hT.o3 (hT.k t_this (by decide))).one 0 rfl rfl 2 (by decide) (hg _ k281) (fun _ h9 => h9) rfl dX1_liftSample_87 ?_
        rw [erg]
        refine lv_iload_n hx hb dX1_liftSample_90 rfl (lv_at hl 4 rfl) ?_
        refine va_lald hx hb hK (hT.o9 (hT.k trg (by decide))).one 0 1 rfl rfl (g_in (by omega) (by omega)) dX1_liftSample_91 ?_
        refine lv_topl (fun t59 ht59 => ?_)
        have xt59 : t59.toInt = w k := by rw [ht59, show ix i = k from ixof (by omega)]; exact Z58 k (by omega)
        have hTo := hT
        refine pf2_5 hx hb hg hown hK hT (hT.k tsp (by decide)) rfl (hg _ k242) dX1_liftSample_92 (fun H locs s60 hus60 hT => ?_)
        have ev1 : zI s60 this 5 = v1 := by rw [zpul_I hus60]; exact ev1
        have e27 : zI s60 sp 0 = i := by rw [zpul_I hus60]; exact e27
        have e34 : zI s60 sp 1 = x3 := by rw [zpul_I hus60]; exact e34
        have e41 : zI s60 sp 2 = x11 := by rw [zpul_I hus60]; exact e41
        have Y61 : ∀ j, j < N → (zI s60 rs j).toInt = l j := by first | (rw [show zI s60 rs = zI s51 rs from (zpul_I hus60)]; exact Y52) | rw [show zI s60 rs = zI s51 rs from (zpul_I hus60)]
        have jz62 : zJ s60 sp 3 = t42 := (zpul_o hus60 (Or.inr (by decide))).trans jz53
        have jz63 : zJ s60 sp 4 = t50 := (zpul_o hus60 (Or.inr (by decide))).trans jz54
        have jz64 : zJ s60 sp 5 = t59 := zpul_at hus60
        have fa65 : FA s51 s60 := FA.pul hus60
        have mV66 : VLS κ s60 rv N (v) := VLS.fa mV56 fa65 (fun i hi => hTo.k (hkv i hi) (by decide))
        have mD67 : DTL κ s60 ra m dt := DTL.fa mD57 fa65 (fun j hj => hTo.k (hkd j hj) (by decide))
        have Z68 : ∀ j, j < N → (zJ s60 rg j).toInt = w j := by rw [show zJ s60 rg = zJ s51 rg from zpul_Jo hus60 ((hTo.k trg (by decide)).ne (hTo.k tsp (by decide)) (by decide))]; exact Z58
        refine lv_aload hx hb dX1_liftSample_95 (lv_at hl 0 rfl) ?_
        refine lv_aload_n hx hb dX1_liftSample_97 rfl (lv_at hl 3 rfl) ?_
        refine lv_iload_n hx hb dX1_liftSample_98 rfl (lv_at hl 2 rfl) ?_
        refine lv_iload_n hx hb dX1_liftSample_99 rfl (lv_at hl 4 rfl) ?_
        refine lv_iload_n hx hb dX1_liftSample_100 rfl (lv_at hl 1 rfl) ?_
        have hTo := hT
        refine tVl (n := 3) (As := [.int x3, .int i, .int x11]) (rest := [.ref sp]) hx hb hml hown hg hT hK hX (X1v_shareOf (N := N) (P := P) (w := w) (rl := rl) (k := k) (p := p) (q := q) l κ s60 this x3 i x11  (hT.k t_this (by decide)) (hSR.ext (by rw [esrc]; exact tsrc) (by rw [esrc, erp]; exact trp) hT.2.2.1 rfl (fun _ => rfl)) h1 (by rw [erg]; exact Z68) ⟨by omega, by omega⟩ (by omega) (by omega) (by omega) ⟨hpk, hkq, hqN⟩ (by rw [show zI s60 this 8 = zI σ0 this 8 from t_this.eI hT.2.2.1 (by decide) rfl]; exact h9) h10) sub_fE_fLv (mwV k582 k584 k14 k87 k585) ⟨rfl, by decide, by decide, by decide +kernel⟩ ⟨(Nat.le_of_ble_eq_true rfl), (Nat.le_of_ble_eq_true rfl)⟩ (hT.o3 (hT.k t_this (by decide))) rfl rfl hl.1 rfl (Nat.le_of_ble_eq_true rfl) dX1_liftSample_101 zroom.rf (fun x69 s70 H locs hφ hEs70 hT => ?_)
        have ev1 : zI s70 this 5 = v1 := ((hTo.k t_this (by decide)).eI hEs70 (by decide) rfl).trans ev1
        have e27 : zI s70 sp 0 = i := ((hTo.k tsp (by decide)).eI hEs70 (by decide) rfl).trans e27
        have e34 : zI s70 sp 1 = x3 := ((hTo.k tsp (by decide)).eI hEs70 (by decide) rfl).trans e34
        have e41 : zI s70 sp 2 = x11 := ((hTo.k tsp (by decide)).eI hEs70 (by decide) rfl).trans e41
        have Y71 : ∀ j, j < N → (zI s70 rs j).toInt = l j := by first | (rw [show zI s70 rs = zI s60 rs from funext fun k => (hTo.k trs (by decide)).eI hEs70 (by decide) rfl]; exact Y61) | rw [show zI s70 rs = zI s60 rs from funext fun k => (hTo.k trs (by decide)).eI hEs70 (by decide) rfl]
        have jz72 : zJ s70 sp 3 = t42 := ((hTo.k tsp (by decide)).eJ hEs70 (by decide) rfl).trans jz62
        have jz73 : zJ s70 sp 4 = t50 := ((hTo.k tsp (by decide)).eJ hEs70 (by decide) rfl).trans jz63
        have jz74 : zJ s70 sp 5 = t59 := ((hTo.k tsp (by decide)).eJ hEs70 (by decide) rfl).trans jz64
        have fa75 : FA s60 s70 := FA.ro hTo hEs70 (fun _ => rfl) (fun _ _ => rfl)
        have mV76 : VLS κ s70 rv N (v) := VLS.fa mV66 fa75 (fun i hi => hTo.k (hkv i hi) (by decide))
        have mD77 : DTL κ s70 ra m dt := DTL.fa mD67 fa75 (fun j hj => hTo.k (hkd j hj) (by decide))
        have Z78 : ∀ j, j < N → (zJ s70 rg j).toInt = w j := by rw [show zJ s70 rg = zJ s60 rg from funext fun k => (hTo.k trg (by decide)).eJ hEs70 (by decide) rfl]; exact Z68
        have f79 := hφ
        have es : x69.toInt = s9 := by rw [es9]; exact f79
        have hTo := hT
        refine pf2_6 hx hb hg hown hK hT (hT.k tsp (by decide)) rfl (hg _ k245) dX1_liftSample_104 (fun H locs s80 hus80 hT => ?_)
        have ev1 : zI s80 this 5 = v1 := by rw [zpul_I hus80]; exact ev1
        have e27 : zI s80 sp 0 = i := by rw [zpul_I hus80]; exact e27
        have e34 : zI s80 sp 1 = x3 := by rw [zpul_I hus80]; exact e34
        have e41 : zI s80 sp 2 = x11 := by rw [zpul_I hus80]; exact e41
        have Y81 : ∀ j, j < N → (zI s80 rs j).toInt = l j := by first | (rw [show zI s80 rs = zI s70 rs from (zpul_I hus80)]; exact Y71) | rw [show zI s80 rs = zI s70 rs from (zpul_I hus80)]
        have jz82 : zJ s80 sp 3 = t42 := (zpul_o hus80 (Or.inr (by decide))).trans jz72
        have jz83 : zJ s80 sp 4 = t50 := (zpul_o hus80 (Or.inr (by decide))).trans jz73
        have jz84 : zJ s80 sp 5 = t59 := (zpul_o hus80 (Or.inr (by decide))).trans jz74
        have jz85 : zJ s80 sp 6 = x69 := zpul_at hus80
        have fa86 : FA s70 s80 := FA.pul hus80
        have mV87 : VLS κ s80 rv N (v) := VLS.fa mV76 fa86 (fun i hi => hTo.k (hkv i hi) (by decide))
        have mD88 : DTL κ s80 ra m dt := DTL.fa mD77 fa86 (fun j hj => hTo.k (hkd j hj) (by decide))
        have Z89 : ∀ j, j < N → (zJ s80 rg j).toInt = w j := by rw [show zJ s80 rg = zJ s70 rg from zpul_Jo hus80 ((hTo.k trg (by decide)).ne (hTo.k tsp (by decide)) (by decide))]; exact Z78
        refine lv_aload hx hb dX1_liftSample_107 (lv_at hl 0 rfl) ?_
        refine lv_aload_n hx hb dX1_liftSample_109 rfl (lv_at hl 3 rfl) ?_
        obtain ⟨v90, ev90⟩ : ∃ zz9 : Int32, zI σ0 this 8 = zz9 := ⟨_, rfl⟩
        have qv90 : v90.toInt = (zI σ0 this 8).toInt := by rw [ev90]
        refine va_get (D := κ.1) (ci := 1) (v := .int (zI s80 this 8)) (C := RX1) (T := TX1) (N := 13) hx hb hg inX1 hown hK (hT.o3 (hT.k t_this (by decide))).one 0 rfl rfl 8 (by decide) (hg _ k293) (fun _ h9 => h9) rfl dX1_liftSample_110 ?_
        rw [(hT.eI t_this (by decide) rfl ev90)]
        have hTo := hT
        refine pf2_7 hx hb hg hown hK hT (hT.k tsp (by decide)) rfl (hg _ k247) dX1_liftSample_113 (fun H locs s91 hus91 hT => ?_)
        have ev1 : zI s91 this 5 = v1 := (zput_o hus91 (Or.inr (by decide))).trans ev1
        have e27 : zI s91 sp 0 = i := (zput_o hus91 (Or.inr (by decide))).trans e27
        have e34 : zI s91 sp 1 = x3 := (zput_o hus91 (Or.inr (by decide))).trans e34
        have e41 : zI s91 sp 2 = x11 := (zput_o hus91 (Or.inr (by decide))).trans e41
        have Y92 : ∀ j, j < N → (zI s91 rs j).toInt = l j := by first | (rw [show zI s91 rs = zI s80 rs from zput_Io hus91 ((hTo.k trs (by decide)).ne (hTo.k tsp (by decide)) (by decide))]; exact Y81) | rw [show zI s91 rs = zI s80 rs from zput_Io hus91 ((hTo.k trs (by decide)).ne (hTo.k tsp (by decide)) (by decide))]
        have jz93 : zJ s91 sp 3 = t42 := (congrFun (zput_J (x := sp) hus91) 3).trans jz82
        have jz94 : zJ s91 sp 4 = t50 := (congrFun (zput_J (x := sp) hus91) 4).trans jz83
        have jz95 : zJ s91 sp 5 = t59 := (congrFun (zput_J (x := sp) hus91) 5).trans jz84
        have jz96 : zJ s91 sp 6 = x69 := (congrFun (zput_J (x := sp) hus91) 6).trans jz85
        have fa97 : FA s80 s91 := FA.put hTo (hTo.k tsp (by decide)) (by decide) (by decide) hus91
        have mV98 : VLS κ s91 rv N (v) := VLS.fa mV87 fa97 (fun i hi => hTo.k (hkv i hi) (by decide))
        have mD99 : DTL κ s91 ra m dt := DTL.fa mD88 fa97 (fun j hj => hTo.k (hkd j hj) (by decide))
        have Z100 : ∀ j, j < N → (zJ s91 rg j).toInt = w j := by rw [show zJ s91 rg = zJ s80 rg from (zput_J hus91)]; exact Z89
        have e101 : zI s91 sp 7 = v90 := zput_at hus91
        refine lv_aload hx hb dX1_liftSample_116 (lv_at hl 0 rfl) ?_
        refine lv_aload_n hx hb dX1_liftSample_118 rfl (lv_at hl 3 rfl) ?_
        obtain ⟨v102, ev102⟩ : ∃ zz9 : Int32, zI σ0 this 9 = zz9 := ⟨_, rfl⟩
        have qv102 : v102.toInt = (zI σ0 this 9).toInt := by rw [ev102]
        have b103 : isB v102 := by have q9 := (hT.P (hT.k t_this (by decide)) (by decide)).2; rw [(hT.eI t_this (by decide) rfl ev102)] at q9; exact q9
        refine va_get (D := κ.1) (ci := 1) (v := .int (zI s91 this 9)) (C := RX1) (T := TX1) (N := 13) hx hb hg inX1 hown hK (hT.o3 (hT.k t_this (by decide))).one 0 rfl rfl 9 (by decide) (hg _ k295) (fun _ h9 => h9) rfl dX1_liftSample_119 ?_
        rw [(hT.eI t_this (by decide) rfl ev102)]
        have hTo := hT
        refine pf2_8 hx hb hg hown hK hT (hT.k tsp (by decide)) rfl b103 (hg _ k249) dX1_liftSample_122 (fun H locs s104 hus104 hT => ?_)
        have ev1 : zI s104 this 5 = v1 := (zput_o hus104 (Or.inr (by decide))).trans ev1
        have e27 : zI s104 sp 0 = i := (zput_o hus104 (Or.inr (by decide))).trans e27
        have e34 : zI s104 sp 1 = x3 := (zput_o hus104 (Or.inr (by decide))).trans e34
        have e41 : zI s104 sp 2 = x11 := (zput_o hus104 (Or.inr (by decide))).trans e41
        have e101 : zI s104 sp 7 = v90 := (zput_o hus104 (Or.inr (by decide))).trans e101
        have Y105 : ∀ j, j < N → (zI s104 rs j).toInt = l j := by first | (rw [show zI s104 rs = zI s91 rs from zput_Io hus104 ((hTo.k trs (by decide)).ne (hTo.k tsp (by decide)) (by decide))]; exact Y92) | rw [show zI s104 rs = zI s91 rs from zput_Io hus104 ((hTo.k trs (by decide)).ne (hTo.k tsp (by decide)) (by decide))]
        have jz106 : zJ s104 sp 3 = t42 := (congrFun (zput_J (x := sp) hus104) 3).trans jz93
        have jz107 : zJ s104 sp 4 = t50 := (congrFun (zput_J (x := sp) hus104) 4).trans jz94
        have jz108 : zJ s104 sp 5 = t59 := (congrFun (zput_J (x := sp) hus104) 5).trans jz95
        have jz109 : zJ s104 sp 6 = x69 := (congrFun (zput_J (x := sp) hus104) 6).trans jz96
        have fa110 : FA s91 s104 := FA.put hTo (hTo.k tsp (by decide)) (by decide) (by decide) hus104
        have mV111 : VLS κ s104 rv N (v) := VLS.fa mV98 fa110 (fun i hi => hTo.k (hkv i hi) (by decide))
        have mD112 : DTL κ s104 ra m dt := DTL.fa mD99 fa110 (fun j hj => hTo.k (hkd j hj) (by decide))
        have Z113 : ∀ j, j < N → (zJ s104 rg j).toInt = w j := by rw [show zJ s104 rg = zJ s91 rg from (zput_J hus104)]; exact Z100
        have e114 : zI s104 sp 8 = v102 := zput_at hus104
        refine lv_aload_n hx hb dX1_liftSample_125 rfl (lv_at hl 3 rfl) ?_
        refine lv_aload_n hx hb dX1_liftSample_126 rfl (lv_at hl 3 rfl) ?_
        refine va_get (D := κ.1) (ci := 1) (v := .ref (kR κ this 11)) (C := RX1) (T := TX1) (N := 13) hx hb hg inX1 hown hK (hT.o3 (hT.k t_this (by decide))).one 0 rfl rfl 11 (by decide) (hg _ k298) (fun _ h9 => h9) rfl dX1_liftSample_127 ?_
        rw [erq]
        refine lv_aload_n hx hb dX1_liftSample_130 rfl (lv_at hl 3 rfl) ?_
        refine va_get (D := κ.1) (ci := 1) (v := .int (zI s104 this 8)) (C := RX1) (T := TX1) (N := 13) hx hb hg inX1 hown hK (hT.o3 (hT.k t_this (by decide))).one 0 rfl rfl 8 (by decide) (hg _ k293) (fun _ h9 => h9) rfl dX1_liftSample_131 ?_
        rw [(hT.eI t_this (by decide) rfl ev90)]
        refine lv_iload_n hx hb dX1_liftSample_134 rfl (lv_at hl 2 rfl) ?_
        refine lv_aload_n hx hb dX1_liftSample_135 rfl (lv_at hl 3 rfl) ?_
        refine va_get (D := κ.1) (ci := 1) (v := .ref (kR κ this 0)) (C := RX1) (T := TX1) (N := 13) hx hb hg inX1 hown hK (hT.o3 (hT.k t_this (by decide))).one 0 rfl rfl 0 (by decide) (hg _ k278) (fun _ h9 => h9) rfl dX1_liftSample_136 ?_
        rw [esrc]
        refine va_get (D := κ.1) (ci := 0) (v := .ref (kR κ src 0)) (C := RX0) (T := TX0) (N := 7) hx hb hg inX0 hown hK (hT.o4 (hT.k tsrc (by decide))).one 0 rfl rfl 0 (by decide) (hg _ k157) (fun _ h9 => h9) rfl dX1_liftSample_139 ?_
        rw [erp]
        refine lv_iload_n hx hb dX1_liftSample_142 rfl (lv_at hl 4 rfl) ?_
        refine va_iald hx hb hK (hT.o8 (hT.k trp (by decide))).one 0 0 rfl rfl (g_in (by omega) (by omega)) dX1_liftSample_143 ?_
        refine lv_topi (fun t115 ht115 => ?_)
        have xt115 : t115.toInt = P k := by rw [ht115, ei, show zI s104 rp k = zI σ0 rp k from trp.eI hT.2.2.1 (by decide) rfl]; exact hPS k (by omega)
        refine lv_iload_n hx hb dX1_liftSample_144 rfl (lv_at hl 1 rfl) ?_
        have hTo := hT
        refine tVv (n := 5) (As := [.ref rq, .int v90, .int x3, .int t115, .int x11]) (rest := []) hx hb hml hown hg hT hK hX (X1v_predictInto (N := N) (P := P) (v := v) (rl := rl) (k := k) (p := p) (q := q) l κ s104 this rq v90 x3 t115 x11  (hT.k t_this (by decide)) (hT.k trq (by decide)) (hSR.ext (by rw [esrc]; exact tsrc) (by rw [esrc, erp]; exact trp) hT.2.2.1 rfl (fun _ => rfl)) h1 (by rw [erv]; exact mV111) (fun i hi => by rw [erv]; exact hvp i hi) (by omega) (by omega) (by omega) ⟨hpk, hkq, hqN⟩ (by omega) h10 sp_ sq_) sub_fX_fLv (mwV k542 k544 k10 k87 k545) ⟨rfl, by decide, by decide, by decide +kernel⟩ ⟨(Nat.le_of_ble_eq_true rfl), (Nat.le_of_ble_eq_true rfl)⟩ (hT.o3 (hT.k t_this (by decide))) rfl rfl hl.1 rfl (Nat.le_of_ble_eq_true rfl) dX1_liftSample_145 zroom.rf (fun s117 H locs hφ hEs117 hT => ?_)
        have ev1 : zI s117 this 5 = v1 := ((hTo.k t_this (by decide)).eI hEs117 (by decide) rfl).trans ev1
        have e27 : zI s117 sp 0 = i := ((hTo.k tsp (by decide)).eI hEs117 (by decide) rfl).trans e27
        have e34 : zI s117 sp 1 = x3 := ((hTo.k tsp (by decide)).eI hEs117 (by decide) rfl).trans e34
        have e41 : zI s117 sp 2 = x11 := ((hTo.k tsp (by decide)).eI hEs117 (by decide) rfl).trans e41
        have e101 : zI s117 sp 7 = v90 := ((hTo.k tsp (by decide)).eI hEs117 (by decide) rfl).trans e101
        have e114 : zI s117 sp 8 = v102 := ((hTo.k tsp (by decide)).eI hEs117 (by decide) rfl).trans e114
        have Y118 : ∀ j, j < N → (zI s117 rs j).toInt = l j := by first | (rw [show zI s117 rs = zI s104 rs from funext fun k => (hTo.k trs (by decide)).eI hEs117 (by decide) rfl]; exact Y105) | rw [show zI s117 rs = zI s104 rs from funext fun k => (hTo.k trs (by decide)).eI hEs117 (by decide) rfl]
        have jz119 : zJ s117 sp 3 = t42 := ((hTo.k tsp (by decide)).eJ hEs117 (by decide) rfl).trans jz106
        have jz120 : zJ s117 sp 4 = t50 := ((hTo.k tsp (by decide)).eJ hEs117 (by decide) rfl).trans jz107
        have jz121 : zJ s117 sp 5 = t59 := ((hTo.k tsp (by decide)).eJ hEs117 (by decide) rfl).trans jz108
        have jz122 : zJ s117 sp 6 = x69 := ((hTo.k tsp (by decide)).eJ hEs117 (by decide) rfl).trans jz109
        have Z123 : ∀ j, j < N → (zJ s117 rg j).toInt = w j := by rw [show zJ s117 rg = zJ s104 rg from funext fun k => (hTo.k trg (by decide)).eJ hEs117 (by decide) rfl]; exact Z113
        obtain ⟨f124, f125⟩ := hφ
        have mV126 : VLS κ s117 rv N (v) := VLS.fw mV111 f125 (fun i hi => hTo.k (hkv i hi) (by decide)) hvp
        have mD127 : DTL κ s117 ra m dt := DTL.fw mD112 f125 (fun j hj => hTo.k (hkd j hj) (by decide)) hdp
        refine lv_aload hx hb dX1_liftSample_148 (lv_at hl 0 rfl) ?_
        refine va_get (D := κ.1) (ci := 2) (v := .ref (kR κ sp 9)) (C := RX2) (T := TX2) (N := 10) hx hb hg inX2 hown hK (hT.o2 (hT.k tsp (by decide))).one 0 rfl rfl 9 (by decide) (hg _ k252) (fun _ h9 => h9) rfl dX1_liftSample_150 ?_
        rw [erd]
        refine lv_aload_n hx hb dX1_liftSample_153 rfl (lv_at hl 3 rfl) ?_
        refine va_get (D := κ.1) (ci := 1) (v := .ref (kR κ this 1)) (C := RX1) (T := TX1) (N := 13) hx hb hg inX1 hown hK (hT.o3 (hT.k t_this (by decide))).one 0 rfl rfl 1 (by decide) (hg _ k279) (fun _ h9 => h9) rfl dX1_liftSample_154 ?_
        rw [erv]
        refine lv_iload_n hx hb dX1_liftSample_157 rfl (lv_at hl 4 rfl) ?_
        refine va_aldq hx hb hK (hT.o10 (hT.k trv (by decide))).one 0 4 rfl rfl (g_in (by omega) (by omega)) dX1_liftSample_158 ?_
        obtain ⟨r129, er129⟩ : ∃ z, kR κ rv (ix i) = z := ⟨_, rfl⟩
        have tr129 : zk σ0 r129 1 := by rw [← er129]; exact hT0.ref trv (by decide) (zR10 (ix_lt (by omega) (by omega))) (by decide)
        refine tv (.ref r129) (by rw [← er129]; rfl) ?_
        have wr129 : WV s117 r129 (v k) := by rw [← er129, show ix i = k from ixof (by omega)]; exact mV126 k (by omega)
        obtain ⟨h132, oh132, th132⟩ := hT.o1 (hT.k trd (by decide))
        have hTo := hT
        refine tVv (n := 1) (As := [.ref r129]) (rest := []) hx hb hml hown hg hT hK hX (X4v_copyFrom l κ s117 rd r129  (hT.k trd (by decide)) (hT.k tr129 (by decide)) wr129) sub_fX_fLv (mwV k455 k456 k457 k88 k458) ⟨rfl, by decide, by decide, by decide +kernel⟩ ⟨(Nat.le_of_ble_eq_true rfl), (Nat.le_of_ble_eq_true rfl)⟩ oh132 rfl rfl hl.1 rfl (Nat.le_of_ble_eq_true rfl) dX1_liftSample_159 zroom.rf (fun s131 H locs hφ hEs131 hT => ?_)
        have ev1 : zI s131 this 5 = v1 := ((hTo.k t_this (by decide)).eI hEs131 (by decide) rfl).trans ev1
        have e27 : zI s131 sp 0 = i := ((hTo.k tsp (by decide)).eI hEs131 (by decide) rfl).trans e27
        have e34 : zI s131 sp 1 = x3 := ((hTo.k tsp (by decide)).eI hEs131 (by decide) rfl).trans e34
        have e41 : zI s131 sp 2 = x11 := ((hTo.k tsp (by decide)).eI hEs131 (by decide) rfl).trans e41
        have e101 : zI s131 sp 7 = v90 := ((hTo.k tsp (by decide)).eI hEs131 (by decide) rfl).trans e101
        have e114 : zI s131 sp 8 = v102 := ((hTo.k tsp (by decide)).eI hEs131 (by decide) rfl).trans e114
        have Y133 : ∀ j, j < N → (zI s131 rs j).toInt = l j := by first | (rw [show zI s131 rs = zI s117 rs from funext fun k => (hTo.k trs (by decide)).eI hEs131 (by decide) rfl]; exact Y118) | rw [show zI s131 rs = zI s117 rs from funext fun k => (hTo.k trs (by decide)).eI hEs131 (by decide) rfl]
        have jz134 : zJ s131 sp 3 = t42 := ((hTo.k tsp (by decide)).eJ hEs131 (by decide) rfl).trans jz119
        have jz135 : zJ s131 sp 4 = t50 := ((hTo.k tsp (by decide)).eJ hEs131 (by decide) rfl).trans jz120
        have jz136 : zJ s131 sp 5 = t59 := ((hTo.k tsp (by decide)).eJ hEs131 (by decide) rfl).trans jz121
        have jz137 : zJ s131 sp 6 = x69 := ((hTo.k tsp (by decide)).eJ hEs131 (by decide) rfl).trans jz122
        have Z138 : ∀ j, j < N → (zJ s131 rg j).toInt = w j := by rw [show zJ s131 rg = zJ s117 rg from funext fun k => (hTo.k trg (by decide)).eJ hEs131 (by decide) rfl]; exact Z123
        obtain ⟨f139, f140⟩ := hφ
        have mV141 : VLS κ s131 rv N (v) := VLS.fw mV126 f140 (fun i hi => hTo.k (hkv i hi) (by decide)) hvd
        have mD142 : DTL κ s131 ra m dt := DTL.fw mD127 f140 (fun j hj => hTo.k (hkd j hj) (by decide)) hdd
        have wn143 := f140 rq (Ne.symm hdq) (hTo.k trq (by decide)) _ f124
        refine lv_aload hx hb dX1_liftSample_162 (lv_at hl 0 rfl) ?_
        refine va_get (D := κ.1) (ci := 2) (v := .ref (kR κ sp 9)) (C := RX2) (T := TX2) (N := 10) hx hb hg inX2 hown hK (hT.o2 (hT.k tsp (by decide))).one 0 rfl rfl 9 (by decide) (hg _ k252) (fun _ h9 => h9) rfl dX1_liftSample_164 ?_
        rw [erd]
        refine lv_aload_n hx hb dX1_liftSample_167 rfl (lv_at hl 3 rfl) ?_
        refine va_get (D := κ.1) (ci := 1) (v := .ref (kR κ this 11)) (C := RX1) (T := TX1) (N := 13) hx hb hg inX1 hown hK (hT.o3 (hT.k t_this (by decide))).one 0 rfl rfl 11 (by decide) (hg _ k298) (fun _ h9 => h9) rfl dX1_liftSample_168 ?_
        rw [erq]
        refine lv_ldc2 hx hb hown (hg _ k550) dX1_liftSample_171 ?_
        obtain ⟨h146, oh146, th146⟩ := hT.o1 (hT.k trd (by decide))
        have hTo := hT
        refine tVv (n := 2) (As := [.ref rq, .long (-1)]) (rest := []) hx hb hml hown hg hT hK hX (X4v_add l κ s131 rd rq (-1)  (hT.k trd (by decide)) (hT.k trq (by decide)) f139 wn143 (by rw [jm1]; omega) (by rw [jm1]; omega) (by rw [jm1]; omega) (by rw [jm1]; omega)) sub_fX_fLv (mwV k340 k341 k342 k88 k343) ⟨rfl, by decide, by decide, by decide +kernel⟩ ⟨(Nat.le_of_ble_eq_true rfl), (Nat.le_of_ble_eq_true rfl)⟩ oh146 rfl rfl hl.1 rfl (Nat.le_of_ble_eq_true rfl) dX1_liftSample_174 zroom.rf (fun s145 H locs hφ hEs145 hT => ?_)
        have ev1 : zI s145 this 5 = v1 := ((hTo.k t_this (by decide)).eI hEs145 (by decide) rfl).trans ev1
        have e27 : zI s145 sp 0 = i := ((hTo.k tsp (by decide)).eI hEs145 (by decide) rfl).trans e27
        have e34 : zI s145 sp 1 = x3 := ((hTo.k tsp (by decide)).eI hEs145 (by decide) rfl).trans e34
        have e41 : zI s145 sp 2 = x11 := ((hTo.k tsp (by decide)).eI hEs145 (by decide) rfl).trans e41
        have e101 : zI s145 sp 7 = v90 := ((hTo.k tsp (by decide)).eI hEs145 (by decide) rfl).trans e101
        have e114 : zI s145 sp 8 = v102 := ((hTo.k tsp (by decide)).eI hEs145 (by decide) rfl).trans e114
        have Y147 : ∀ j, j < N → (zI s145 rs j).toInt = l j := by first | (rw [show zI s145 rs = zI s131 rs from funext fun k => (hTo.k trs (by decide)).eI hEs145 (by decide) rfl]; exact Y133) | rw [show zI s145 rs = zI s131 rs from funext fun k => (hTo.k trs (by decide)).eI hEs145 (by decide) rfl]
        have jz148 : zJ s145 sp 3 = t42 := ((hTo.k tsp (by decide)).eJ hEs145 (by decide) rfl).trans jz134
        have jz149 : zJ s145 sp 4 = t50 := ((hTo.k tsp (by decide)).eJ hEs145 (by decide) rfl).trans jz135
        have jz150 : zJ s145 sp 5 = t59 := ((hTo.k tsp (by decide)).eJ hEs145 (by decide) rfl).trans jz136
        have jz151 : zJ s145 sp 6 = x69 := ((hTo.k tsp (by decide)).eJ hEs145 (by decide) rfl).trans jz137
        have Z152 : ∀ j, j < N → (zJ s145 rg j).toInt = w j := by rw [show zJ s145 rg = zJ s131 rg from funext fun k => (hTo.k trg (by decide)).eJ hEs145 (by decide) rfl]; exact Z138
        obtain ⟨f153, f154⟩ := hφ
        have mV155 : VLS κ s145 rv N (v) := VLS.fw mV141 f154 (fun i hi => hTo.k (hkv i hi) (by decide)) hvd
        have mD156 : DTL κ s145 ra m dt := DTL.fw mD142 f154 (fun j hj => hTo.k (hkd j hj) (by decide)) hdd
        have wv157 : WV s145 rd d := by have z9 := f153; rw [show v k + prd P v rl k p q * (-1 : Int64).toInt = d from by rw [jm1]; omega] at z9; exact z9
        refine lv_aload_n hx hb dX1_liftSample_177 rfl (lv_at hl 3 rfl) ?_
        refine lv_aload hx hb dX1_liftSample_178 (lv_at hl 0 rfl) ?_
        refine lv_iconst (v := 1) hx hb dX1_liftSample_180 (by decide) ?_
        have jv3 := jz148
        have jv4 := jz149
        have jv5 := jz150
        have jv6 := jz151
        have hJ : ∀ k, 3 ≤ k → k ≤ 6 → 0 ≤ (zJ s145 sp k).toInt ∧ (zJ s145 sp k).toInt ≤ 20000 := fun k k1 k2 => by rcases (show k = 3 ∨ k = 4 ∨ k = 5 ∨ k = 6 by omega) with rfl | rfl | rfl | rfl; (rw [jv3]; omega); (rw [jv4]; omega); (rw [jv5]; omega); (rw [jv6]; omega)
        have hTo := hT
        refine tVv (n := 2) (As := [.ref sp, .int 1]) (rest := []) hx hb hml hown hg hT hK hX (X1v_addGains (N := N) (M := m) (v := v) (dt := dt) (d := d) (E := E) (F := F) (W := w k) (u := u) (p := p) (q := q) l κ s145 this sp 1  (hT.k t_this (by decide)) (hT.k tsp (by decide)) (by rw [erv]; exact mV155) (by rw [era]; exact mD156) h2 ⟨hP48, by omega⟩ (by rw [erd]; exact wv157) (fun i hi => by rw [erd, ← erm, ← era]; exact h2.vd hi (by omega)) (by rw [erd, erq]; exact hdq) (by rw [e34]; omega) (by rw [e41]; omega) ⟨by omega, hqN⟩ (by rw [e114]; omega) (by rw [jv3, jv6]; omega) (by rw [jv4, jv5, jv6]; omega) (by rw [jv5]; omega) hJ n3 n4 n5 n6 sp_ sq_ (by omega)) sub_fX_fLv (mwV k586 k588 k15 k87 k589) ⟨rfl, by decide, by decide, by decide +kernel⟩ ⟨(Nat.le_of_ble_eq_true rfl), (Nat.le_of_ble_eq_true rfl)⟩ (hT.o3 (hT.k t_this (by decide))) rfl rfl hl.1 rfl (Nat.le_of_ble_eq_true rfl) dX1_liftSample_181 zroom.rf (fun s159 H locs hφ hEs159 hT => ?_)
        have ev1 : zI s159 this 5 = v1 := ((hTo.k t_this (by decide)).eI hEs159 (by decide) rfl).trans ev1
        have e27 : zI s159 sp 0 = i := ((hTo.k tsp (by decide)).eI hEs159 (by decide) rfl).trans e27
        have e34 : zI s159 sp 1 = x3 := ((hTo.k tsp (by decide)).eI hEs159 (by decide) rfl).trans e34
        have e41 : zI s159 sp 2 = x11 := ((hTo.k tsp (by decide)).eI hEs159 (by decide) rfl).trans e41
        have e101 : zI s159 sp 7 = v90 := ((hTo.k tsp (by decide)).eI hEs159 (by decide) rfl).trans e101
        have e114 : zI s159 sp 8 = v102 := ((hTo.k tsp (by decide)).eI hEs159 (by decide) rfl).trans e114
        have Y160 : ∀ j, j < N → (zI s159 rs j).toInt = l j := by first | (rw [show zI s159 rs = zI s145 rs from funext fun k => (hTo.k trs (by decide)).eI hEs159 (by decide) rfl]; exact Y147) | rw [show zI s159 rs = zI s145 rs from funext fun k => (hTo.k trs (by decide)).eI hEs159 (by decide) rfl]
        have jz161 : zJ s159 sp 3 = t42 := ((hTo.k tsp (by decide)).eJ hEs159 (by decide) rfl).trans jz148
        have jz162 : zJ s159 sp 4 = t50 := ((hTo.k tsp (by decide)).eJ hEs159 (by decide) rfl).trans jz149
        have jz163 : zJ s159 sp 5 = t59 := ((hTo.k tsp (by decide)).eJ hEs159 (by decide) rfl).trans jz150
        have jz164 : zJ s159 sp 6 = x69 := ((hTo.k tsp (by decide)).eJ hEs159 (by decide) rfl).trans jz151
        have Z165 : ∀ j, j < N → (zJ s159 rg j).toInt = w j := by rw [show zJ s159 rg = zJ s145 rg from funext fun k => (hTo.k trg (by decide)).eJ hEs159 (by decide) rfl]; exact Z152
        obtain ⟨f166, f167, f168⟩ := hφ
        have mV169 : VLS κ s159 rv N (updi (updi v p (v p + gan u (w k) d E F)) q (v q + gan u (w k) d F E)) := by rw [← erv]; exact f166
        have mD170 : DTL κ s159 ra m dt := by rw [← era]; exact f167
        have mD171 : DTL κ s159 ra (m + 1) (updi dt m d) := mD170.more (by rw [erm, ← erd]; exact f168)
        have hkd : ∀ j, j < m + 1 → zk σ0 (kR κ (kR κ ra j) 9) 1 := fun j hj => hT0.kd tra (by omega)
        refine lv_aload_n hx hb dX1_liftSample_184 rfl (lv_at hl 3 rfl) ?_
        refine va_get (D := κ.1) (ci := 1) (v := .ref (kR κ this 2)) (C := RX1) (T := TX1) (N := 13) hx hb hg inX1 hown hK (hT.o3 (hT.k t_this (by decide))).one 0 rfl rfl 2 (by decide) (hg _ k281) (fun _ h9 => h9) rfl dX1_liftSample_185 ?_
        rw [erg]
        refine lv_iload_n hx hb dX1_liftSample_188 rfl (lv_at hl 2 rfl) ?_
        refine lv_aload hx hb dX1_liftSample_189 (lv_at hl 0 rfl) ?_
        have hTo := hT
        refine tVl (n := 0) (As := []) (rest := [.int x3, .ref rg]) hx hb hml hown hg hT hK hX (X2v_leftWeightAfter l κ s159 sp  (hT.k tsp (by decide)) (by rw [jz161]; omega) (by rw [jz161]; omega) (by rw [jz164]; omega) (by rw [jz164]; omega)) sub_fE_fLv (mwV k590 k591 k592 k89 k593) ⟨rfl, by decide, by decide, by decide +kernel⟩ ⟨(Nat.le_of_ble_eq_true rfl), (Nat.le_of_ble_eq_true rfl)⟩ (hT.o2 (hT.k tsp (by decide))) rfl rfl hl.1 rfl (Nat.le_of_ble_eq_true rfl) dX1_liftSample_191 zroom.rf (fun x172 s173 H locs hφ hEs173 hT => ?_)
        have ev1 : zI s173 this 5 = v1 := ((hTo.k t_this (by decide)).eI hEs173 (by decide) rfl).trans ev1
        have e27 : zI s173 sp 0 = i := ((hTo.k tsp (by decide)).eI hEs173 (by decide) rfl).trans e27
        have e34 : zI s173 sp 1 = x3 := ((hTo.k tsp (by decide)).eI hEs173 (by decide) rfl).trans e34
        have e41 : zI s173 sp 2 = x11 := ((hTo.k tsp (by decide)).eI hEs173 (by decide) rfl).trans e41
        have e101 : zI s173 sp 7 = v90 := ((hTo.k tsp (by decide)).eI hEs173 (by decide) rfl).trans e101
        have e114 : zI s173 sp 8 = v102 := ((hTo.k tsp (by decide)).eI hEs173 (by decide) rfl).trans e114
        have Y174 : ∀ j, j < N → (zI s173 rs j).toInt = l j := by first | (rw [show zI s173 rs = zI s159 rs from funext fun k => (hTo.k trs (by decide)).eI hEs173 (by decide) rfl]; exact Y160) | rw [show zI s173 rs = zI s159 rs from funext fun k => (hTo.k trs (by decide)).eI hEs173 (by decide) rfl]
        have jz175 : zJ s173 sp 3 = t42 := ((hTo.k tsp (by decide)).eJ hEs173 (by decide) rfl).trans jz161
        have jz176 : zJ s173 sp 4 = t50 := ((hTo.k tsp (by decide)).eJ hEs173 (by decide) rfl).trans jz162
        have jz177 : zJ s173 sp 5 = t59 := ((hTo.k tsp (by decide)).eJ hEs173 (by decide) rfl).trans jz163
        have jz178 : zJ s173 sp 6 = x69 := ((hTo.k tsp (by decide)).eJ hEs173 (by decide) rfl).trans jz164
        have fa179 : FA s159 s173 := FA.ro hTo hEs173 (fun _ => rfl) (fun _ _ => rfl)
        have mV180 : VLS κ s173 rv N (updi (updi v p (v p + gan u (w k) d E F)) q (v q + gan u (w k) d F E)) := VLS.fa mV169 fa179 (fun i hi => hTo.k (hkv i hi) (by decide))
        have mD181 : DTL κ s173 ra (m + 1) (updi dt m d) := DTL.fa mD171 fa179 (fun j hj => hTo.k (hkd j hj) (by decide))
        have Z182 : ∀ j, j < N → (zJ s173 rg j).toInt = w j := by rw [show zJ s173 rg = zJ s159 rg from funext fun k => (hTo.k trg (by decide)).eJ hEs173 (by decide) rfl]; exact Z165
        have f183 := hφ
        rw [jz161] at f183
        rw [jz164] at f183
        have zE : x172.toInt = E := by omega
        have hTo := hT
        refine tastl (n := 48) hx hb hK hT (hT.k trg (by decide)) ⟨by decide, by decide⟩ (fun _ _ _ => rfl) (fun _ _ => trivial) (fun _ => rfl) (by omega) (by omega) dX1_liftSample_194 (fun H locs s184 hus184 hT => ?_)
        have ev1 : zI s184 this 5 = v1 := by rw [zpul_I hus184]; exact ev1
        have e27 : zI s184 sp 0 = i := by rw [zpul_I hus184]; exact e27
        have e34 : zI s184 sp 1 = x3 := by rw [zpul_I hus184]; exact e34
        have e41 : zI s184 sp 2 = x11 := by rw [zpul_I hus184]; exact e41
        have e101 : zI s184 sp 7 = v90 := by rw [zpul_I hus184]; exact e101
        have e114 : zI s184 sp 8 = v102 := by rw [zpul_I hus184]; exact e114
        have Y185 : ∀ j, j < N → (zI s184 rs j).toInt = l j := by first | (rw [show zI s184 rs = zI s173 rs from (zpul_I hus184)]; exact Y174) | rw [show zI s184 rs = zI s173 rs from (zpul_I hus184)]
        have jz186 : zJ s184 sp 3 = t42 := (zpul_o hus184 (Or.inl ((hTo.k tsp (by decide)).ne (hTo.k trg (by decide)) (by decide)))).trans jz175
        have jz187 : zJ s184 sp 4 = t50 := (zpul_o hus184 (Or.inl ((hTo.k tsp (by decide)).ne (hTo.k trg (by decide)) (by decide)))).trans jz176
        have jz188 : zJ s184 sp 5 = t59 := (zpul_o hus184 (Or.inl ((hTo.k tsp (by decide)).ne (hTo.k trg (by decide)) (by decide)))).trans jz177
        have jz189 : zJ s184 sp 6 = x69 := (zpul_o hus184 (Or.inl ((hTo.k tsp (by decide)).ne (hTo.k trg (by decide)) (by decide)))).trans jz178
        have fa190 : FA s173 s184 := FA.pul hus184
        have mV191 : VLS κ s184 rv N (updi (updi v p (v p + gan u (w k) d E F)) q (v q + gan u (w k) d F E)) := VLS.fa mV180 fa190 (fun i hi => hTo.k (hkv i hi) (by decide))
        have mD192 : DTL κ s184 ra (m + 1) (updi dt m d) := DTL.fa mD181 fa190 (fun j hj => hTo.k (hkd j hj) (by decide))
        have gw1 : zJ s184 rg = vp_updL (zJ s173 rg) p x172 := by rw [zpul_Ja hus184, show ix x3 = p from ixof (by omega)]
        refine lv_aload_n hx hb dX1_liftSample_195 rfl (lv_at hl 3 rfl) ?_
        refine va_get (D := κ.1) (ci := 1) (v := .ref (kR κ this 2)) (C := RX1) (T := TX1) (N := 13) hx hb hg inX1 hown hK (hT.o3 (hT.k t_this (by decide))).one 0 rfl rfl 2 (by decide) (hg _ k281) (fun _ h9 => h9) rfl dX1_liftSample_196 ?_
        rw [erg]
        refine lv_iload_n hx hb dX1_liftSample_199 rfl (lv_at hl 1 rfl) ?_
        refine lv_aload hx hb dX1_liftSample_200 (lv_at hl 0 rfl) ?_
        have hTo := hT
        refine tVl (n := 0) (As := []) (rest := [.int x11, .ref rg]) hx hb hml hown hg hT hK hX (X2v_rightWeightAfter l κ s184 sp  (hT.k tsp (by decide)) (by rw [jz187]; omega) (by rw [jz187]; omega) (by rw [jz188]; omega) (by rw [jz188]; omega) (by rw [jz189]; omega) (by rw [jz189]; omega)) sub_fE_fLv (mwV k594 k595 k596 k89 k597) ⟨rfl, by decide, by decide, by decide +kernel⟩ ⟨(Nat.le_of_ble_eq_true rfl), (Nat.le_of_ble_eq_true rfl)⟩ (hT.o2 (hT.k tsp (by decide))) rfl rfl hl.1 rfl (Nat.le_of_ble_eq_true rfl) dX1_liftSample_202 zroom.rf (fun x193 s194 H locs hφ hEs194 hT => ?_)
        have ev1 : zI s194 this 5 = v1 := ((hTo.k t_this (by decide)).eI hEs194 (by decide) rfl).trans ev1
        have e27 : zI s194 sp 0 = i := ((hTo.k tsp (by decide)).eI hEs194 (by decide) rfl).trans e27
        have e34 : zI s194 sp 1 = x3 := ((hTo.k tsp (by decide)).eI hEs194 (by decide) rfl).trans e34
        have e41 : zI s194 sp 2 = x11 := ((hTo.k tsp (by decide)).eI hEs194 (by decide) rfl).trans e41
        have e101 : zI s194 sp 7 = v90 := ((hTo.k tsp (by decide)).eI hEs194 (by decide) rfl).trans e101
        have e114 : zI s194 sp 8 = v102 := ((hTo.k tsp (by decide)).eI hEs194 (by decide) rfl).trans e114
        have Y195 : ∀ j, j < N → (zI s194 rs j).toInt = l j := by first | (rw [show zI s194 rs = zI s184 rs from funext fun k => (hTo.k trs (by decide)).eI hEs194 (by decide) rfl]; exact Y185) | rw [show zI s194 rs = zI s184 rs from funext fun k => (hTo.k trs (by decide)).eI hEs194 (by decide) rfl]
        have jz196 : zJ s194 sp 3 = t42 := ((hTo.k tsp (by decide)).eJ hEs194 (by decide) rfl).trans jz186
        have jz197 : zJ s194 sp 4 = t50 := ((hTo.k tsp (by decide)).eJ hEs194 (by decide) rfl).trans jz187
        have jz198 : zJ s194 sp 5 = t59 := ((hTo.k tsp (by decide)).eJ hEs194 (by decide) rfl).trans jz188
        have jz199 : zJ s194 sp 6 = x69 := ((hTo.k tsp (by decide)).eJ hEs194 (by decide) rfl).trans jz189
        have fa200 : FA s184 s194 := FA.ro hTo hEs194 (fun _ => rfl) (fun _ _ => rfl)
        have mV201 : VLS κ s194 rv N (updi (updi v p (v p + gan u (w k) d E F)) q (v q + gan u (w k) d F E)) := VLS.fa mV191 fa200 (fun i hi => hTo.k (hkv i hi) (by decide))
        have mD202 : DTL κ s194 ra (m + 1) (updi dt m d) := DTL.fa mD192 fa200 (fun j hj => hTo.k (hkd j hj) (by decide))
        have Z203 : zJ s194 rg = vp_updL (zJ s173 rg) p x172 := by rw [show zJ s194 rg = zJ s184 rg from funext fun k => (hTo.k trg (by decide)).eJ hEs194 (by decide) rfl]; exact gw1
        have f204 := hφ
        rw [jz187] at f204
        rw [jz188] at f204
        rw [jz189] at f204
        have zF : x193.toInt = F := by omega
        have hTo := hT
        refine tastl (n := 48) hx hb hK hT (hT.k trg (by decide)) ⟨by decide, by decide⟩ (fun _ _ _ => rfl) (fun _ _ => trivial) (fun _ => rfl) (by omega) (by omega) dX1_liftSample_205 (fun H locs s205 hus205 hT => ?_)
        have ev1 : zI s205 this 5 = v1 := by rw [zpul_I hus205]; exact ev1
        have e27 : zI s205 sp 0 = i := by rw [zpul_I hus205]; exact e27
        have e34 : zI s205 sp 1 = x3 := by rw [zpul_I hus205]; exact e34
        have e41 : zI s205 sp 2 = x11 := by rw [zpul_I hus205]; exact e41
        have e101 : zI s205 sp 7 = v90 := by rw [zpul_I hus205]; exact e101
        have e114 : zI s205 sp 8 = v102 := by rw [zpul_I hus205]; exact e114
        have Y206 : ∀ j, j < N → (zI s205 rs j).toInt = l j := by first | (rw [show zI s205 rs = zI s194 rs from (zpul_I hus205)]; exact Y195) | rw [show zI s205 rs = zI s194 rs from (zpul_I hus205)]
        have jz207 : zJ s205 sp 3 = t42 := (zpul_o hus205 (Or.inl ((hTo.k tsp (by decide)).ne (hTo.k trg (by decide)) (by decide)))).trans jz196
        have jz208 : zJ s205 sp 4 = t50 := (zpul_o hus205 (Or.inl ((hTo.k tsp (by decide)).ne (hTo.k trg (by decide)) (by decide)))).trans jz197
        have jz209 : zJ s205 sp 5 = t59 := (zpul_o hus205 (Or.inl ((hTo.k tsp (by decide)).ne (hTo.k trg (by decide)) (by decide)))).trans jz198
        have jz210 : zJ s205 sp 6 = x69 := (zpul_o hus205 (Or.inl ((hTo.k tsp (by decide)).ne (hTo.k trg (by decide)) (by decide)))).trans jz199
        have fa211 : FA s194 s205 := FA.pul hus205
        have mV212 : VLS κ s205 rv N (updi (updi v p (v p + gan u (w k) d E F)) q (v q + gan u (w k) d F E)) := VLS.fa mV201 fa211 (fun i hi => hTo.k (hkv i hi) (by decide))
        have mD213 : DTL κ s205 ra (m + 1) (updi dt m d) := DTL.fa mD202 fa211 (fun j hj => hTo.k (hkd j hj) (by decide))
        have gw214 : ∀ j, j < N → (zJ s205 rg j).toInt = updi (updi w p E) q F j := by rw [zpul_Ja hus205, Z203, show ix x11 = q from ixof (by omega)]; exact w2_up Z182 zE zF
        refine lv_aload_n hx hb dX1_liftSample_206 rfl (lv_at hl 3 rfl) ?_
        refine va_get (D := κ.1) (ci := 1) (v := .ref (kR κ this 3)) (C := RX1) (T := TX1) (N := 13) hx hb hg inX1 hown hK (hT.o3 (hT.k t_this (by decide))).one 0 rfl rfl 3 (by decide) (hg _ k283) (fun _ h9 => h9) rfl dX1_liftSample_207 ?_
        rw [ers]
        refine lv_iload_n hx hb dX1_liftSample_210 rfl (lv_at hl 4 rfl) ?_
        refine lv_aload_n hx hb dX1_liftSample_211 rfl (lv_at hl 3 rfl) ?_
        refine va_get (D := κ.1) (ci := 1) (v := .int (zI s205 this 5)) (C := RX1) (T := TX1) (N := 13) hx hb hg inX1 hown hK (hT.o3 (hT.k t_this (by decide))).one 0 rfl rfl 5 (by decide) (hg _ k287) (fun _ h9 => h9) rfl dX1_liftSample_212 ?_
        rw [ev1]
        have hTo := hT
        refine tasti (n := 48) hx hb hK hT (hT.k trs (by decide)) ⟨by decide, by decide⟩ (fun _ _ _ => rfl) (fun _ _ => trivial) (fun _ => rfl) (by omega) (by omega) dX1_liftSample_215 (fun H locs s215 hus215 hT => ?_)
        have ev1 : zI s215 this 5 = v1 := (zput_o hus215 (Or.inl ((hTo.k t_this (by decide)).ne (hTo.k trs (by decide)) (by decide)))).trans ev1
        have e27 : zI s215 sp 0 = i := (zput_o hus215 (Or.inl ((hTo.k tsp (by decide)).ne (hTo.k trs (by decide)) (by decide)))).trans e27
        have e34 : zI s215 sp 1 = x3 := (zput_o hus215 (Or.inl ((hTo.k tsp (by decide)).ne (hTo.k trs (by decide)) (by decide)))).trans e34
        have e41 : zI s215 sp 2 = x11 := (zput_o hus215 (Or.inl ((hTo.k tsp (by decide)).ne (hTo.k trs (by decide)) (by decide)))).trans e41
        have e101 : zI s215 sp 7 = v90 := (zput_o hus215 (Or.inl ((hTo.k tsp (by decide)).ne (hTo.k trs (by decide)) (by decide)))).trans e101
        have e114 : zI s215 sp 8 = v102 := (zput_o hus215 (Or.inl ((hTo.k tsp (by decide)).ne (hTo.k trs (by decide)) (by decide)))).trans e114
        have jz216 : zJ s215 sp 3 = t42 := (congrFun (zput_J (x := sp) hus215) 3).trans jz207
        have jz217 : zJ s215 sp 4 = t50 := (congrFun (zput_J (x := sp) hus215) 4).trans jz208
        have jz218 : zJ s215 sp 5 = t59 := (congrFun (zput_J (x := sp) hus215) 5).trans jz209
        have jz219 : zJ s215 sp 6 = x69 := (congrFun (zput_J (x := sp) hus215) 6).trans jz210
        have fa220 : FA s205 s215 := FA.put hTo (hTo.k trs (by decide)) (by decide) (by decide) hus215
        have mV221 : VLS κ s215 rv N (updi (updi v p (v p + gan u (w k) d E F)) q (v q + gan u (w k) d F E)) := VLS.fa mV212 fa220 (fun i hi => hTo.k (hkv i hi) (by decide))
        have mD222 : DTL κ s215 ra (m + 1) (updi dt m d) := DTL.fa mD213 fa220 (fun j hj => hTo.k (hkd j hj) (by decide))
        have Z223 : ∀ j, j < N → (zJ s215 rg j).toInt = updi (updi w p E) q F j := by rw [show zJ s215 rg = zJ s205 rg from (zput_J hus215)]; exact gw214
        have mk224 : ∀ j, j < N → (zI s215 rs j).toInt = updi l k m j := fun j hj => by
          by_cases e9 : j = k
          · rw [e9, updi_at, ← ei, zput_at hus215]; omega
          · rw [updi_o e9, zput_o hus215 (Or.inr (by rw [ei]; exact e9))]; exact Y206 j hj
        refine lv_aload_n hx hb dX1_liftSample_216 rfl (lv_at hl 3 rfl) ?_
        refine lv_dup hx hb dX1_liftSample_217 rfl ?_
        refine va_get (D := κ.1) (ci := 1) (v := .int (zI s215 this 5)) (C := RX1) (T := TX1) (N := 13) hx hb hg inX1 hown hK (hT.o3 (hT.k t_this (by decide))).one 0 rfl rfl 5 (by decide) (hg _ k287) (fun _ h9 => h9) rfl dX1_liftSample_218 ?_
        rw [ev1]
        refine lv_iconst (v := 1) hx hb dX1_liftSample_221 (by decide) ?_
        refine lv_iadd hx hb dX1_liftSample_222 ?_
        first | refine g_add (by omega) (by omega) (fun t225 ht225 => ?_) | refine lv_topi (fun t225 ht225 => ?_)
        have hTo := hT
        refine pf3_5 hx hb hg hown hK hT (hT.k t_this (by decide)) rfl ⟨by omega, by omega⟩ (hg _ k287) dX1_liftSample_223 (fun H locs s226 hus226 hT => ?_)
        have e27 : zI s226 sp 0 = i := (zput_o hus226 (Or.inr (by decide))).trans e27
        have e34 : zI s226 sp 1 = x3 := (zput_o hus226 (Or.inr (by decide))).trans e34
        have e41 : zI s226 sp 2 = x11 := (zput_o hus226 (Or.inr (by decide))).trans e41
        have e101 : zI s226 sp 7 = v90 := (zput_o hus226 (Or.inr (by decide))).trans e101
        have e114 : zI s226 sp 8 = v102 := (zput_o hus226 (Or.inr (by decide))).trans e114
        have Y227 : ∀ j, j < N → (zI s226 rs j).toInt = updi l k m j := by first | (rw [show zI s226 rs = zI s215 rs from zput_Io hus226 ((hTo.k trs (by decide)).ne (hTo.k t_this (by decide)) (by decide))]; exact mk224) | rw [show zI s226 rs = zI s215 rs from zput_Io hus226 ((hTo.k trs (by decide)).ne (hTo.k t_this (by decide)) (by decide))]
        have jz228 : zJ s226 sp 3 = t42 := (congrFun (zput_J (x := sp) hus226) 3).trans jz216
        have jz229 : zJ s226 sp 4 = t50 := (congrFun (zput_J (x := sp) hus226) 4).trans jz217
        have jz230 : zJ s226 sp 5 = t59 := (congrFun (zput_J (x := sp) hus226) 5).trans jz218
        have jz231 : zJ s226 sp 6 = x69 := (congrFun (zput_J (x := sp) hus226) 6).trans jz219
        have fa232 : FA s215 s226 := FA.put hTo (hTo.k t_this (by decide)) (by decide) (by decide) hus226
        have mV233 : VLS κ s226 rv N (updi (updi v p (v p + gan u (w k) d E F)) q (v q + gan u (w k) d F E)) := VLS.fa mV221 fa232 (fun i hi => hTo.k (hkv i hi) (by decide))
        have mD234 : DTL κ s226 ra (m + 1) (updi dt m d) := DTL.fa mD222 fa232 (fun j hj => hTo.k (hkd j hj) (by decide))
        have Z235 : ∀ j, j < N → (zJ s226 rg j).toInt = updi (updi w p E) q F j := by rw [show zJ s226 rg = zJ s215 rg from (zput_J hus226)]; exact Z223
        have e236 : zI s226 this 5 = t225 := zput_at hus226
        refine lv_aload hx hb dX1_liftSample_226 (lv_at hl 0 rfl) ?_
        refine va_get (D := κ.1) (ci := 2) (v := .ref (kR κ sp 9)) (C := RX2) (T := TX2) (N := 10) hx hb hg inX2 hown hK (hT.o2 (hT.k tsp (by decide))).one 0 rfl rfl 9 (by decide) (hg _ k252) (fun _ h9 => h9) rfl dX1_liftSample_228 ?_
        rw [erd]
        obtain ⟨h239, oh239, th239⟩ := hT.o1 (hT.k trd (by decide))
        have hTo := hT
        refine tVl (n := 0) (As := []) (rest := []) hx hb hml hown hg hT hK hX (X4_toLong l κ s226 rd  (hT.k trd (by decide)) ) sub_fE_fLv (mwV k500 k436 k437 k88 k438) ⟨rfl, by decide, by decide, by decide +kernel⟩ ⟨(Nat.le_of_ble_eq_true rfl), (Nat.le_of_ble_eq_true rfl)⟩ oh239 rfl rfl hl.1 rfl (Nat.le_of_ble_eq_true rfl) dX1_liftSample_231 zroom.rf (fun x237 s238 H locs hφ hEs238 hT => ?_)
        have e27 : zI s238 sp 0 = i := ((hTo.k tsp (by decide)).eI hEs238 (by decide) rfl).trans e27
        have e34 : zI s238 sp 1 = x3 := ((hTo.k tsp (by decide)).eI hEs238 (by decide) rfl).trans e34
        have e41 : zI s238 sp 2 = x11 := ((hTo.k tsp (by decide)).eI hEs238 (by decide) rfl).trans e41
        have e101 : zI s238 sp 7 = v90 := ((hTo.k tsp (by decide)).eI hEs238 (by decide) rfl).trans e101
        have e114 : zI s238 sp 8 = v102 := ((hTo.k tsp (by decide)).eI hEs238 (by decide) rfl).trans e114
        have e236 : zI s238 this 5 = t225 := ((hTo.k t_this (by decide)).eI hEs238 (by decide) rfl).trans e236
        have Y240 : ∀ j, j < N → (zI s238 rs j).toInt = updi l k m j := by first | (rw [show zI s238 rs = zI s226 rs from funext fun k => (hTo.k trs (by decide)).eI hEs238 (by decide) rfl]; exact Y227) | rw [show zI s238 rs = zI s226 rs from funext fun k => (hTo.k trs (by decide)).eI hEs238 (by decide) rfl]
        have jz241 : zJ s238 sp 3 = t42 := ((hTo.k tsp (by decide)).eJ hEs238 (by decide) rfl).trans jz228
        have jz242 : zJ s238 sp 4 = t50 := ((hTo.k tsp (by decide)).eJ hEs238 (by decide) rfl).trans jz229
        have jz243 : zJ s238 sp 5 = t59 := ((hTo.k tsp (by decide)).eJ hEs238 (by decide) rfl).trans jz230
        have jz244 : zJ s238 sp 6 = x69 := ((hTo.k tsp (by decide)).eJ hEs238 (by decide) rfl).trans jz231
        have fa245 : FA s226 s238 := FA.ro hTo hEs238 (fun _ => rfl) (fun _ _ => rfl)
        have mV246 : VLS κ s238 rv N (updi (updi v p (v p + gan u (w k) d E F)) q (v q + gan u (w k) d F E)) := VLS.fa mV233 fa245 (fun i hi => hTo.k (hkv i hi) (by decide))
        have mD247 : DTL κ s238 ra (m + 1) (updi dt m d) := DTL.fa mD234 fa245 (fun j hj => hTo.k (hkd j hj) (by decide))
        have Z248 : ∀ j, j < N → (zJ s238 rg j).toInt = updi (updi w p E) q F j := by rw [show zJ s238 rg = zJ s226 rg from funext fun k => (hTo.k trg (by decide)).eJ hEs238 (by decide) rfl]; exact Z235
        have eL : (lft P rl u (v, w, l, dt, m) k p q) = (updi (updi v p (v p + gan u (w k) d E F)) q (v q + gan u (w k) d F E), updi (updi w p E) q F, updi l k m, updi dt m d, m + 1) := by rw [eE, eF, eD, es9]; rfl
        subst hQ9
        exact t_l hx hb hr hlocks hT (by rw [eL]; exact ⟨(hSR.ext (by rw [esrc]; exact tsrc) (by rw [esrc, erp]; exact trp) hT.2.2.1 rfl (fun _ => rfl)), by rw [erv]; exact mV246, by rw [erg]; exact Z248, by rw [ers]; exact Y240, by rw [era]; exact mD247, by rw [e236]; show _ = ((m + 1 : Nat) : Int); omega⟩) dX1_liftSample_234
      · have c6 := gi_nlt c9
        exfalso; omega
