/-! States with their numbers: one lift -/
theorem sub_fE_fLv : ∀ t k, fLv t k = false → fE t k = false := by
  intro t k h
  simp [fE, fLv] at h ⊢ <;> omega
theorem sub_fX_fLv : ∀ t k, fLv t k = false → fX t k = false := by
  intro t k h
  simp [fX, fLv] at h ⊢ <;> omega
set_option maxHeartbeats 4000000 in
set_option maxRecDepth 100000 in
theorem X1v_liftSample (l : Launch) (κ : Kt) (σ0 : Gh) (this : Nat) (i : Int32) {N : Nat} {P v w la dt : Nat → Int} {rl u : Int} {ma k pa q : Nat} (t_this : zk σ0 this 3) (h0 : SST κ σ0 this N P (v, w, la, dt, ma)) (h1 : PLI N P) (h2 : DW κ this) (h3 : PIV N P rl (v, w, la, dt, ma)) (h4 : i.toInt = k) (h5 : la k = -1) (h6 : LN la k pa) (h7 : RN N la k q) (h8 : ma ≤ 45) (h9 : (zI σ0 this 8).toInt = rl) (h10 : rl = 0 ∨ rl = 1 ∨ rl = 2) (h11 : (zI σ0 this 9).toInt = u) : TC l yX1_liftSample cX1_liftSample 5 (some .long) 3 76 [.ref this, .int i] κ σ0 (tql κ fLv σ0 (fun (r : Int64) (τ : Gh) => (SST κ τ this N P (lft P rl u (v, w, la, dt, ma) k pa q)))) := by
  refine TC.of fLv (by decide +kernel) (Nat.le_of_ble_eq_true rfl) ?_
  intro p e s m below meth c ls hcs hK hX hT hl
  obtain ⟨hx, hb, hr, hml, hown, hg, hlocks, hin⟩ := hcs
  have hown : s.vm.findClass RX1 = some m.cls := hown
  have hl : lv_has ls 5 [(0, .ref this), (1, .int i)] := hl
  have hT0 := hT
  have nm1 : ((-1) : Int32).toInt = (-1) := by decide
  have n1 : (1 : Int32).toInt = 1 := by decide
  have n46 : (46 : Int32).toInt = 46 := by decide
  have jm1 : ((-1) : Int64).toInt = (-1) := by decide
  have i_lo := Int32.le_toInt i
  have i_hi := Int32.toInt_lt i
  generalize hQ9 : tQ _ _ _ _ _ _ = Q9
  obtain ⟨src, esrc⟩ : ∃ z, kR κ this 0 = z := ⟨_, rfl⟩
  have tsrc : zk σ0 src 4 := by rw [← esrc]; exact hT0.ref t_this (by decide) (by decide) (by decide)
  have bsrc := (hT0.P tsrc (by decide)).1
  have bsrcl := bsrc.1
  have bsrch := bsrc.2
  obtain ⟨rp, erp⟩ : ∃ z, kR κ src 0 = z := ⟨_, rfl⟩
  have trp : zk σ0 rp 8 := by rw [← erp]; exact hT0.ref tsrc (by decide) (by decide) (by decide)
  obtain ⟨rv, erv⟩ : ∃ z, kR κ this 1 = z := ⟨_, rfl⟩
  have trv : zk σ0 rv 10 := by rw [← erv]; exact hT0.ref t_this (by decide) (by decide) (by decide)
  obtain ⟨rg, erg⟩ : ∃ z, kR κ this 2 = z := ⟨_, rfl⟩
  have trg : zk σ0 rg 9 := by rw [← erg]; exact hT0.ref t_this (by decide) (by decide) (by decide)
  obtain ⟨rs, ers⟩ : ∃ z, kR κ this 3 = z := ⟨_, rfl⟩
  have trs : zk σ0 rs 15 := by rw [← ers]; exact hT0.ref t_this (by decide) (by decide) (by decide)
  obtain ⟨ra, era⟩ : ∃ z, kR κ this 4 = z := ⟨_, rfl⟩
  have tra : zk σ0 ra 11 := by rw [← era]; exact hT0.ref t_this (by decide) (by decide) (by decide)
  obtain ⟨rq, erq⟩ : ∃ z, kR κ this 11 = z := ⟨_, rfl⟩
  have trq : zk σ0 rq 1 := by rw [← erq]; exact hT0.ref t_this (by decide) (by decide) (by decide)
  have hSR : SRC κ σ0 this N P := h0.1
  have hN := hSR.1
  have hPS := hSR.2
  rw [esrc] at hN hPS
  rw [erp] at hPS
  have hP48 : N ≤ 48 := by omega
  have hVL : VLS κ σ0 (kR κ this 1) N v := h0.2.1
  rw [erv] at hVL
  have hWt : ∀ j, j < N → (zJ σ0 (kR κ this 2) j).toInt = w j := h0.2.2.1
  have hWg := hWt
  rw [erg] at hWg
  have hLm : ∀ j, j < N → (zI σ0 (kR κ this 3) j).toInt = la j := h0.2.2.2.1
  have hLs := hLm
  rw [ers] at hLs
  have hDL : DTL κ σ0 (kR κ this 4) ma dt := h0.2.2.2.2.1
  rw [era] at hDL
  have hM5 : (zI σ0 this 5).toInt = ma := h0.2.2.2.2.2
  have hkv : ∀ i, i < N → zk σ0 (kR κ rv i) 1 := fun i hi => hT0.kv trv (by omega)
  have hkd : ∀ j, j < ma → zk σ0 (kR κ (kR κ ra j) 9) 1 := fun j hj => hT0.kd tra (by omega)
  have hpk := h6.1
  have hkq := h7.1.1
  have hqN := h7.1.2
  have ei := ixof h4
  have hvp : ∀ i, i < N → kR κ rv i ≠ rq := fun i hi => by rw [← erv, ← erq]; exact h2.vp (by omega)
  have hdp : ∀ j, j < ma → kR κ (kR κ ra j) 9 ≠ rq := fun j hj => by rw [← era, ← erq]; exact h2.dp (by omega)
  obtain ⟨s9, es9⟩ : ∃ z, z = shr P w rl k pa q := ⟨_, rfl⟩
  obtain ⟨E, eE⟩ : ∃ z, z = w pa + s9 := ⟨_, rfl⟩
  obtain ⟨F, eF⟩ : ∃ z, z = w q + w k - s9 := ⟨_, rfl⟩
  obtain ⟨d, eD⟩ : ∃ z, z = v k - prd P v rl k pa q := ⟨_, rfl⟩
  obtain ⟨⟨n1a, n1b⟩, ⟨n2a, n2b, n2c, n2d⟩, n3, n4, n5, n6⟩ := h3.num h1 h10 (by omega) h5 h6 h7 es9 eE eF eD
  have bk := (h1 k (by omega)).1
  have opk := h1.lt hpk (by omega)
  have okq := h1.lt hkq hqN
  have sk := h3.small (by omega) (show k < N by omega) h5
  have sp_ := h3.small (by omega) (show pa < N by omega) h6.2.1
  have sq_ := h3.small (by omega) hqN h7.2.1
  have hpr := prd_in (v := v) (r := rl) (k := k) opk okq (B := 1114000000) sp_ sq_
  obtain ⟨v201, ev201⟩ : ∃ zz9 : Int32, zI σ0 this 5 = zz9 := ⟨_, rfl⟩
  have qv201 : v201.toInt = (zI σ0 this 5).toInt := by rw [ev201]
  have b202 := (hT.P (hT.k t_this (by decide)) (by decide)).1
  rw [ev201] at b202
  have b202l := b202.1
  have b202h := b202.2
  refine lv_aload_n hx hb dX1_liftSample_0 rfl (lv_at hl 0 rfl) ?_
  refine lv_iload_n hx hb dX1_liftSample_1 rfl (lv_at hl 1 rfl) ?_
  have hTo := hT
  refine tVi (n := 1) (As := [.int i]) (rest := []) hx hb hml hown hg hT hK hX (X1v_leftOf l κ σ0 this i  (hT.k t_this (by decide)) (by omega) (by omega)) sub_fE_fLv (mwV k574 k575 k576 k87 k577) ⟨rfl, by decide, by decide, by decide +kernel⟩ ⟨(Nat.le_of_ble_eq_true rfl), (Nat.le_of_ble_eq_true rfl)⟩ (hT.o3 (hT.k t_this (by decide))) rfl rfl hl.1 rfl (Nat.le_of_ble_eq_true rfl) dX1_liftSample_2 zroom.rf (fun x203 s204 H locs hφ hEs204 hT => ?_)
  have ev201 : zI s204 this 5 = v201 := ((hTo.k t_this (by decide)).eI hEs204 (by decide) rfl).trans ev201
  have Y205 : ∀ j, j < N → (zI s204 rs j).toInt = la j := by first | (rw [show zI s204 rs = zI σ0 rs from funext fun k => (hTo.k trs (by decide)).eI hEs204 (by decide) rfl]; exact hLs) | rw [show zI s204 rs = zI σ0 rs from funext fun k => (hTo.k trs (by decide)).eI hEs204 (by decide) rfl]
  have fa206 : FA σ0 s204 := FA.ro hTo hEs204 (fun _ => rfl) (fun _ _ => rfl)
  have mV207 : VLS κ s204 rv N (v) := VLS.fa hVL fa206 (fun i hi => hTo.k (hkv i hi) (by decide))
  have mD208 : DTL κ s204 ra ma dt := DTL.fa hDL fa206 (fun j hj => hTo.k (hkd j hj) (by decide))
  have Z209 : ∀ j, j < N → (zJ s204 rg j).toInt = w j := by rw [show zJ s204 rg = zJ σ0 rg from funext fun k => (hTo.k trg (by decide)).eJ hEs204 (by decide) rfl]; exact hWg
  have f210 := hφ
  have xl : x203.toInt = pa := by
    rcases f210 with ⟨-, f9⟩ | ⟨p9, f8, f9⟩
    · exact absurd ((hLm pa (by omega)).trans h6.2.1) (f9 pa (by rw [ei]; exact hpk))
    · rw [ei] at f9
      rw [f8, (f9.cg (l' := la) (fun j hj => (hLm j (by omega)).symm)).one h6]
  refine lv_istore_n (lv' := [(2, .int x203), (0, .ref this), (1, .int i)]) hx hb dX1_liftSample_5 rfl hl (by decide) rfl (fun ls hl => ?_)
  refine lv_aload_n hx hb dX1_liftSample_6 rfl (lv_at hl 1 rfl) ?_
  refine lv_iload_n hx hb dX1_liftSample_7 rfl (lv_at hl 2 rfl) ?_
  have hTo := hT
  refine tVi (n := 1) (As := [.int i]) (rest := []) hx hb hml hown hg hT hK hX (X1v_rightOf l κ s204 this i  (hT.k t_this (by decide)) (by omega) (by omega)) sub_fE_fLv (mwV k578 k579 k580 k87 k581) ⟨rfl, by decide, by decide, by decide +kernel⟩ ⟨(Nat.le_of_ble_eq_true rfl), (Nat.le_of_ble_eq_true rfl)⟩ (hT.o3 (hT.k t_this (by decide))) rfl rfl hl.1 rfl (Nat.le_of_ble_eq_true rfl) dX1_liftSample_8 zroom.rf (fun x211 s212 H locs hφ hEs212 hT => ?_)
  have ev201 : zI s212 this 5 = v201 := ((hTo.k t_this (by decide)).eI hEs212 (by decide) rfl).trans ev201
  have Y213 : ∀ j, j < N → (zI s212 rs j).toInt = la j := by first | (rw [show zI s212 rs = zI s204 rs from funext fun k => (hTo.k trs (by decide)).eI hEs212 (by decide) rfl]; exact Y205) | rw [show zI s212 rs = zI s204 rs from funext fun k => (hTo.k trs (by decide)).eI hEs212 (by decide) rfl]
  have fa214 : FA s204 s212 := FA.ro hTo hEs212 (fun _ => rfl) (fun _ _ => rfl)
  have mV215 : VLS κ s212 rv N (v) := VLS.fa mV207 fa214 (fun i hi => hTo.k (hkv i hi) (by decide))
  have mD216 : DTL κ s212 ra ma dt := DTL.fa mD208 fa214 (fun j hj => hTo.k (hkd j hj) (by decide))
  have Z217 : ∀ j, j < N → (zJ s212 rg j).toInt = w j := by rw [show zJ s212 rg = zJ s204 rg from funext fun k => (hTo.k trg (by decide)).eJ hEs212 (by decide) rfl]; exact Z209
  have f218 := hφ
  have hl8 : ∀ j, j < N → (zI s204 (kR κ this 3) j).toInt = la j := fun j hj => by rw [ers]; exact Y205 j hj
  have hn8 : (zI s204 (kR κ this 0) 2).toInt.toNat = N := by rw [esrc, show zI s204 src 2 = zI σ0 src 2 from tsrc.eI hTo.2.2.1 (by decide) rfl]; omega
  rw [hn8] at f218
  have xr : x211.toInt = q := by
    rcases f218 with ⟨-, f9⟩ | ⟨q9, f8, f9⟩
    · exact absurd ((hl8 q hqN).trans h7.2.1) (f9 q (by rw [ei]; exact hkq) hqN)
    · rw [ei] at f9
      rw [f8, (f9.cg (l' := la) (fun j hj => (hl8 j hj).symm)).one h7]
  refine lv_istore_n (lv' := [(3, .int x211), (2, .int x203), (0, .ref this), (1, .int i)]) hx hb dX1_liftSample_11 rfl hl (by decide) rfl (fun ls hl => ?_)
  refine lv_iload_n hx hb dX1_liftSample_12 rfl (lv_at hl 1 rfl) ?_
  refine lv_iconst (v := (-1)) hx hb dX1_liftSample_13 (by decide) ?_
  refine lv_icmp_eq (tgt := 31) hx hb dX1_liftSample_14 (by decide) (fun c9 => ?_) (fun c9 => ?_)
  · have c1 := gi_eq c9
    exfalso; omega
  · have c2 := gi_ne c9
    refine lv_iload_n hx hb dX1_liftSample_17 rfl (lv_at hl 0 rfl) ?_
    refine lv_iconst (v := (-1)) hx hb dX1_liftSample_18 (by decide) ?_
    refine lv_icmp_eq (tgt := 31) hx hb dX1_liftSample_19 (by decide) (fun c9 => ?_) (fun c9 => ?_)
    · have c3 := gi_eq c9
      exfalso; omega
    · have c4 := gi_ne c9
      refine lv_aload_n hx hb dX1_liftSample_22 rfl (lv_at hl 2 rfl) ?_
      refine va_get (D := κ.1) (ci := 1) (v := .int (zI s212 this 5)) (C := RX1) (T := TX1) (N := 13) hx hb hg inX1 hown hK (hT.o3 (hT.k t_this (by decide))).one 0 rfl rfl 5 (by decide) (hg _ k287) (fun _ h9 => h9) rfl dX1_liftSample_23 ?_
      rw [ev201]
      refine lv_bipush (v := 46) hx hb dX1_liftSample_26 (by decide) ?_
      refine lv_icmp_lt (tgt := 33) hx hb dX1_liftSample_28 (by decide) (fun c9 => ?_) (fun c9 => ?_)
      · have c5 := gi_lt c9
        refine lv_aload_n hx hb dX1_liftSample_33 rfl (lv_at hl 2 rfl) ?_
        refine va_get (D := κ.1) (ci := 1) (v := .ref (kR κ this 4)) (C := RX1) (T := TX1) (N := 13) hx hb hg inX1 hown hK (hT.o3 (hT.k t_this (by decide))).one 0 rfl rfl 4 (by decide) (hg _ k285) (fun _ h9 => h9) rfl dX1_liftSample_34 ?_
        rw [era]
        refine lv_aload_n hx hb dX1_liftSample_37 rfl (lv_at hl 2 rfl) ?_
        refine va_get (D := κ.1) (ci := 1) (v := .int (zI s212 this 5)) (C := RX1) (T := TX1) (N := 13) hx hb hg inX1 hown hK (hT.o3 (hT.k t_this (by decide))).one 0 rfl rfl 5 (by decide) (hg _ k287) (fun _ h9 => h9) rfl dX1_liftSample_38 ?_
        rw [ev201]
        refine va_aldq hx hb hK (hT.o11 (hT.k tra (by decide))).one 0 5 rfl rfl (g_in (by omega) (by omega)) dX1_liftSample_41 ?_
        obtain ⟨r220, er220⟩ : ∃ z, kR κ ra (ix v201) = z := ⟨_, rfl⟩
        have tr220 : zk σ0 r220 2 := by rw [← er220]; exact hT0.ref tra (by decide) (zR11 (ix_lt (by omega) (by omega))) (by decide)
        refine tv (.ref r220) (by rw [← er220]; rfl) ?_
        have hsp0 : ix v201 = ma := ixof (by omega)
        have hsp : kR κ ra ma = r220 := by rw [← hsp0]; exact er220
        obtain ⟨sp, esp⟩ : ∃ z, r220 = z := ⟨_, rfl⟩
        rw [esp] at hsp
        refine tv (.ref sp) (by rw [← esp]) ?_
        have tsp : zk σ0 sp 2 := by rw [← esp]; exact tr220
        obtain ⟨rd, erd⟩ : ∃ z, kR κ sp 9 = z := ⟨_, rfl⟩
        have trd : zk σ0 rd 1 := by rw [← erd]; exact hT0.ref tsp (by decide) (by decide) (by decide)
        have erm : kR κ (kR κ ra ma) 9 = rd := by rw [hsp]; exact erd
        have hvd : ∀ i, i < N → kR κ rv i ≠ rd := fun i hi => by rw [← erm, ← erv, ← era]; exact h2.vd (by omega) (by omega)
        have hdd : ∀ j, j < ma → kR κ (kR κ ra j) 9 ≠ rd := fun j hj q9 => by have z9 := h2.dd (i := j) (j := ma) (by omega) (by omega) (by rw [era, erm]; exact q9); omega
        have hdq : rd ≠ rq := by rw [← erm, ← era, ← erq]; exact h2.dp (by omega)
        refine lv_astore (lv' := [(4, .ref sp), (3, .int x211), (2, .int x203), (0, .ref this), (1, .int i)]) hx hb dX1_liftSample_42 hl (by decide) rfl (fun ls hl => ?_)
        refine lv_aload hx hb dX1_liftSample_44 (lv_at hl 0 rfl) ?_
        refine lv_iload_n hx hb dX1_liftSample_46 rfl (lv_at hl 4 rfl) ?_
        have hTo := hT
        refine pf2_0 hx hb hg hown hK hT (hT.k tsp (by decide)) rfl ⟨by omega, by omega⟩ (hg _ k229) dX1_liftSample_47 (fun H locs s221 hus221 hT => ?_)
        have ev201 : zI s221 this 5 = v201 := (zput_o hus221 (Or.inr (by decide))).trans ev201
        have Y222 : ∀ j, j < N → (zI s221 rs j).toInt = la j := by first | (rw [show zI s221 rs = zI s212 rs from zput_Io hus221 ((hTo.k trs (by decide)).ne (hTo.k tsp (by decide)) (by decide))]; exact Y213) | rw [show zI s221 rs = zI s212 rs from zput_Io hus221 ((hTo.k trs (by decide)).ne (hTo.k tsp (by decide)) (by decide))]
        have fa223 : FA s212 s221 := FA.put hTo (hTo.k tsp (by decide)) (by decide) (by decide) hus221
        have mV224 : VLS κ s221 rv N (v) := VLS.fa mV215 fa223 (fun i hi => hTo.k (hkv i hi) (by decide))
        have mD225 : DTL κ s221 ra ma dt := DTL.fa mD216 fa223 (fun j hj => hTo.k (hkd j hj) (by decide))
        have Z226 : ∀ j, j < N → (zJ s221 rg j).toInt = w j := by rw [show zJ s221 rg = zJ s212 rg from (zput_J hus221)]; exact Z217
        have e227 : zI s221 sp 0 = i := zput_at hus221
        refine lv_aload hx hb dX1_liftSample_50 (lv_at hl 0 rfl) ?_
        refine lv_iload_n hx hb dX1_liftSample_52 rfl (lv_at hl 2 rfl) ?_
        have hTo := hT
        refine pf2_1 hx hb hg hown hK hT (hT.k tsp (by decide)) rfl ⟨by omega, by omega⟩ (hg _ k232) dX1_liftSample_53 (fun H locs s228 hus228 hT => ?_)
        have ev201 : zI s228 this 5 = v201 := (zput_o hus228 (Or.inr (by decide))).trans ev201
        have e227 : zI s228 sp 0 = i := (zput_o hus228 (Or.inr (by decide))).trans e227
        have Y229 : ∀ j, j < N → (zI s228 rs j).toInt = la j := by first | (rw [show zI s228 rs = zI s221 rs from zput_Io hus228 ((hTo.k trs (by decide)).ne (hTo.k tsp (by decide)) (by decide))]; exact Y222) | rw [show zI s228 rs = zI s221 rs from zput_Io hus228 ((hTo.k trs (by decide)).ne (hTo.k tsp (by decide)) (by decide))]
        have fa230 : FA s221 s228 := FA.put hTo (hTo.k tsp (by decide)) (by decide) (by decide) hus228
        have mV231 : VLS κ s228 rv N (v) := VLS.fa mV224 fa230 (fun i hi => hTo.k (hkv i hi) (by decide))
        have mD232 : DTL κ s228 ra ma dt := DTL.fa mD225 fa230 (fun j hj => hTo.k (hkd j hj) (by decide))
        have Z233 : ∀ j, j < N → (zJ s228 rg j).toInt = w j := by rw [show zJ s228 rg = zJ s221 rg from (zput_J hus228)]; exact Z226
        have e234 : zI s228 sp 1 = x203 := zput_at hus228
        refine lv_aload hx hb dX1_liftSample_56 (lv_at hl 0 rfl) ?_
        refine lv_iload_n hx hb dX1_liftSample_58 rfl (lv_at hl 1 rfl) ?_
        have hTo := hT
        refine pf2_2 hx hb hg hown hK hT (hT.k tsp (by decide)) rfl ⟨by omega, by omega⟩ (hg _ k235) dX1_liftSample_59 (fun H locs s235 hus235 hT => ?_)
        have ev201 : zI s235 this 5 = v201 := (zput_o hus235 (Or.inr (by decide))).trans ev201
        have e227 : zI s235 sp 0 = i := (zput_o hus235 (Or.inr (by decide))).trans e227
        have e234 : zI s235 sp 1 = x203 := (zput_o hus235 (Or.inr (by decide))).trans e234
        have Y236 : ∀ j, j < N → (zI s235 rs j).toInt = la j := by first | (rw [show zI s235 rs = zI s228 rs from zput_Io hus235 ((hTo.k trs (by decide)).ne (hTo.k tsp (by decide)) (by decide))]; exact Y229) | rw [show zI s235 rs = zI s228 rs from zput_Io hus235 ((hTo.k trs (by decide)).ne (hTo.k tsp (by decide)) (by decide))]
        have fa237 : FA s228 s235 := FA.put hTo (hTo.k tsp (by decide)) (by decide) (by decide) hus235
        have mV238 : VLS κ s235 rv N (v) := VLS.fa mV231 fa237 (fun i hi => hTo.k (hkv i hi) (by decide))
        have mD239 : DTL κ s235 ra ma dt := DTL.fa mD232 fa237 (fun j hj => hTo.k (hkd j hj) (by decide))
        have Z240 : ∀ j, j < N → (zJ s235 rg j).toInt = w j := by rw [show zJ s235 rg = zJ s228 rg from (zput_J hus235)]; exact Z233
        have e241 : zI s235 sp 2 = x211 := zput_at hus235
        refine lv_aload hx hb dX1_liftSample_62 (lv_at hl 0 rfl) ?_
        refine lv_aload_n hx hb dX1_liftSample_64 rfl (lv_at hl 3 rfl) ?_
        refine va_get (D := κ.1) (ci := 1) (v := .ref (kR κ this 2)) (C := RX1) (T := TX1) (N := 13) hx hb hg inX1 hown hK (hT.o3 (hT.k t_this (by decide))).one 0 rfl rfl 2 (by decide) (hg _ k281) (fun _ h9 => h9) rfl dX1_liftSample_65 ?_
        rw [erg]
        refine lv_iload_n hx hb dX1_liftSample_68 rfl (lv_at hl 2 rfl) ?_
        refine va_lald hx hb hK (hT.o9 (hT.k trg (by decide))).one 0 1 rfl rfl (g_in (by omega) (by omega)) dX1_liftSample_69 ?_
        refine lv_topl (fun t242 ht242 => ?_)
        have xt242 : t242.toInt = w pa := by rw [ht242, ixc, show ix x203 = pa from ixof (by omega)]; exact Z240 pa (by omega)
        have hTo := hT
        refine pf2_3 hx hb hg hown hK hT (hT.k tsp (by decide)) rfl (hg _ k237) dX1_liftSample_70 (fun H locs s243 hus243 hT => ?_)
        have ev201 : zI s243 this 5 = v201 := by rw [zpul_I hus243]; exact ev201
        have e227 : zI s243 sp 0 = i := by rw [zpul_I hus243]; exact e227
        have e234 : zI s243 sp 1 = x203 := by rw [zpul_I hus243]; exact e234
        have e241 : zI s243 sp 2 = x211 := by rw [zpul_I hus243]; exact e241
        have Y244 : ∀ j, j < N → (zI s243 rs j).toInt = la j := by first | (rw [show zI s243 rs = zI s235 rs from (zpul_I hus243)]; exact Y236) | rw [show zI s243 rs = zI s235 rs from (zpul_I hus243)]
        have jz245 : zJ s243 sp 3 = t242 := zpul_at hus243
        have fa246 : FA s235 s243 := FA.pul hus243
        have mV247 : VLS κ s243 rv N (v) := VLS.fa mV238 fa246 (fun i hi => hTo.k (hkv i hi) (by decide))
        have mD248 : DTL κ s243 ra ma dt := DTL.fa mD239 fa246 (fun j hj => hTo.k (hkd j hj) (by decide))
        have Z249 : ∀ j, j < N → (zJ s243 rg j).toInt = w j := by rw [show zJ s243 rg = zJ s235 rg from zpul_Jo hus243 ((hTo.k trg (by decide)).ne (hTo.k tsp (by decide)) (by decide))]; exact Z240
        refine lv_aload hx hb dX1_liftSample_73 (lv_at hl 0 rfl) ?_
        refine lv_aload_n hx hb dX1_liftSample_75 rfl (lv_at hl 3 rfl) ?_
        refine va_get (D := κ.1) (ci := 1) (v := .ref (kR κ this 2)) (C := RX1) (T := TX1) (N := 13) hx hb hg inX1 hown hK (hT.o3 (hT.k t_this (by decide))).one 0 rfl rfl 2 (by decide) (hg _ k281) (fun _ h9 => h9) rfl dX1_liftSample_76 ?_
        rw [erg]
        refine lv_iload_n hx hb dX1_liftSample_79 rfl (lv_at hl 1 rfl) ?_
        refine va_lald hx hb hK (hT.o9 (hT.k trg (by decide))).one 0 1 rfl rfl (g_in (by omega) (by omega)) dX1_liftSample_80 ?_
        refine lv_topl (fun t250 ht250 => ?_)
        have xt250 : t250.toInt = w q := by rw [ht250, ixc, show ix x211 = q from ixof (by omega)]; exact Z249 q (by omega)
        have hTo := hT
        refine pf2_4 hx hb hg hown hK hT (hT.k tsp (by decide)) rfl (hg _ k239) dX1_liftSample_81 (fun H locs s251 hus251 hT => ?_)
        have ev201 : zI s251 this 5 = v201 := by rw [zpul_I hus251]; exact ev201
        have e227 : zI s251 sp 0 = i := by rw [zpul_I hus251]; exact e227
        have e234 : zI s251 sp 1 = x203 := by rw [zpul_I hus251]; exact e234
        have e241 : zI s251 sp 2 = x211 := by rw [zpul_I hus251]; exact e241
        have Y252 : ∀ j, j < N → (zI s251 rs j).toInt = la j := by first | (rw [show zI s251 rs = zI s243 rs from (zpul_I hus251)]; exact Y244) | rw [show zI s251 rs = zI s243 rs from (zpul_I hus251)]
        have jz253 : zJ s251 sp 3 = t242 := (zpul_o hus251 (Or.inr (by decide))).trans jz245
        have jz254 : zJ s251 sp 4 = t250 := zpul_at hus251
        have fa255 : FA s243 s251 := FA.pul hus251
        have mV256 : VLS κ s251 rv N (v) := VLS.fa mV247 fa255 (fun i hi => hTo.k (hkv i hi) (by decide))
        have mD257 : DTL κ s251 ra ma dt := DTL.fa mD248 fa255 (fun j hj => hTo.k (hkd j hj) (by decide))
        have Z258 : ∀ j, j < N → (zJ s251 rg j).toInt = w j := by rw [show zJ s251 rg = zJ s243 rg from zpul_Jo hus251 ((hTo.k trg (by decide)).ne (hTo.k tsp (by decide)) (by decide))]; exact Z249
        refine lv_aload hx hb dX1_liftSample_84 (lv_at hl 0 rfl) ?_
        refine lv_aload_n hx hb dX1_liftSample_86 rfl (lv_at hl 3 rfl) ?_
        refine va_get (D := κ.1) (ci := 1) (v := .ref (kR κ this 2)) (C := RX1) (T := TX1) (N := 13) hx hb hg inX1 hown hK (hT.o3 (hT.k t_this (by decide))).one 0 rfl rfl 2 (by decide) (hg _ k281) (fun _ h9 => h9) rfl dX1_liftSample_87 ?_
        rw [erg]
        refine lv_iload_n hx hb dX1_liftSample_90 rfl (lv_at hl 4 rfl) ?_
        refine va_lald hx hb hK (hT.o9 (hT.k trg (by decide))).one 0 1 rfl rfl (g_in (by omega) (by omega)) dX1_liftSample_91 ?_
        refine lv_topl (fun t259 ht259 => ?_)
        have xt259 : t259.toInt = w k := by rw [ht259, ixc, show ix i = k from ixof (by omega)]; exact Z258 k (by omega)
        have hTo := hT
        refine pf2_5 hx hb hg hown hK hT (hT.k tsp (by decide)) rfl (hg _ k242) dX1_liftSample_92 (fun H locs s260 hus260 hT => ?_)
        have ev201 : zI s260 this 5 = v201 := by rw [zpul_I hus260]; exact ev201
        have e227 : zI s260 sp 0 = i := by rw [zpul_I hus260]; exact e227
        have e234 : zI s260 sp 1 = x203 := by rw [zpul_I hus260]; exact e234
        have e241 : zI s260 sp 2 = x211 := by rw [zpul_I hus260]; exact e241
        have Y261 : ∀ j, j < N → (zI s260 rs j).toInt = la j := by first | (rw [show zI s260 rs = zI s251 rs from (zpul_I hus260)]; exact Y252) | rw [show zI s260 rs = zI s251 rs from (zpul_I hus260)]
        have jz262 : zJ s260 sp 3 = t242 := (zpul_o hus260 (Or.inr (by decide))).trans jz253
        have jz263 : zJ s260 sp 4 = t250 := (zpul_o hus260 (Or.inr (by decide))).trans jz254
        have jz264 : zJ s260 sp 5 = t259 := zpul_at hus260
        have fa265 : FA s251 s260 := FA.pul hus260
        have mV266 : VLS κ s260 rv N (v) := VLS.fa mV256 fa265 (fun i hi => hTo.k (hkv i hi) (by decide))
        have mD267 : DTL κ s260 ra ma dt := DTL.fa mD257 fa265 (fun j hj => hTo.k (hkd j hj) (by decide))
        have Z268 : ∀ j, j < N → (zJ s260 rg j).toInt = w j := by rw [show zJ s260 rg = zJ s251 rg from zpul_Jo hus260 ((hTo.k trg (by decide)).ne (hTo.k tsp (by decide)) (by decide))]; exact Z258
        refine lv_aload hx hb dX1_liftSample_95 (lv_at hl 0 rfl) ?_
        refine lv_aload_n hx hb dX1_liftSample_97 rfl (lv_at hl 3 rfl) ?_
        refine lv_iload_n hx hb dX1_liftSample_98 rfl (lv_at hl 2 rfl) ?_
        refine lv_iload_n hx hb dX1_liftSample_99 rfl (lv_at hl 4 rfl) ?_
        refine lv_iload_n hx hb dX1_liftSample_100 rfl (lv_at hl 1 rfl) ?_
        have hTo := hT
        refine tVl (n := 3) (As := [.int x203, .int i, .int x211]) (rest := [.ref sp]) hx hb hml hown hg hT hK hX (X1v_shareOf (N := N) (P := P) (w := w) (rl := rl) (k := k) (pa := pa) (q := q) l κ s260 this x203 i x211  (hT.k t_this (by decide)) (hSR.ext (by rw [esrc]; exact tsrc) (by rw [esrc, erp]; exact trp) hT.2.2.1 rfl (fun _ => rfl)) h1 (by rw [erg]; exact Z268) ⟨by omega, by omega⟩ (by omega) (by omega) (by omega) ⟨hpk, hkq, hqN⟩ (by rw [show zI s260 this 8 = zI σ0 this 8 from t_this.eI hT.2.2.1 (by decide) rfl]; exact h9) h10) sub_fE_fLv (mwV k582 k584 k14 k87 k585) ⟨rfl, by decide, by decide, by decide +kernel⟩ ⟨(Nat.le_of_ble_eq_true rfl), (Nat.le_of_ble_eq_true rfl)⟩ (hT.o3 (hT.k t_this (by decide))) rfl rfl hl.1 rfl (Nat.le_of_ble_eq_true rfl) dX1_liftSample_101 zroom.rf (fun x269 s270 H locs hφ hEs270 hT => ?_)
        have ev201 : zI s270 this 5 = v201 := ((hTo.k t_this (by decide)).eI hEs270 (by decide) rfl).trans ev201
        have e227 : zI s270 sp 0 = i := ((hTo.k tsp (by decide)).eI hEs270 (by decide) rfl).trans e227
        have e234 : zI s270 sp 1 = x203 := ((hTo.k tsp (by decide)).eI hEs270 (by decide) rfl).trans e234
        have e241 : zI s270 sp 2 = x211 := ((hTo.k tsp (by decide)).eI hEs270 (by decide) rfl).trans e241
        have Y271 : ∀ j, j < N → (zI s270 rs j).toInt = la j := by first | (rw [show zI s270 rs = zI s260 rs from funext fun k => (hTo.k trs (by decide)).eI hEs270 (by decide) rfl]; exact Y261) | rw [show zI s270 rs = zI s260 rs from funext fun k => (hTo.k trs (by decide)).eI hEs270 (by decide) rfl]
        have jz272 : zJ s270 sp 3 = t242 := ((hTo.k tsp (by decide)).eJ hEs270 (by decide) rfl).trans jz262
        have jz273 : zJ s270 sp 4 = t250 := ((hTo.k tsp (by decide)).eJ hEs270 (by decide) rfl).trans jz263
        have jz274 : zJ s270 sp 5 = t259 := ((hTo.k tsp (by decide)).eJ hEs270 (by decide) rfl).trans jz264
        have fa275 : FA s260 s270 := FA.ro hTo hEs270 (fun _ => rfl) (fun _ _ => rfl)
        have mV276 : VLS κ s270 rv N (v) := VLS.fa mV266 fa275 (fun i hi => hTo.k (hkv i hi) (by decide))
        have mD277 : DTL κ s270 ra ma dt := DTL.fa mD267 fa275 (fun j hj => hTo.k (hkd j hj) (by decide))
        have Z278 : ∀ j, j < N → (zJ s270 rg j).toInt = w j := by rw [show zJ s270 rg = zJ s260 rg from funext fun k => (hTo.k trg (by decide)).eJ hEs270 (by decide) rfl]; exact Z268
        have f279 := hφ
        have es : x269.toInt = s9 := by rw [es9]; exact f279
        have hTo := hT
        refine pf2_6 hx hb hg hown hK hT (hT.k tsp (by decide)) rfl (hg _ k245) dX1_liftSample_104 (fun H locs s280 hus280 hT => ?_)
        have ev201 : zI s280 this 5 = v201 := by rw [zpul_I hus280]; exact ev201
        have e227 : zI s280 sp 0 = i := by rw [zpul_I hus280]; exact e227
        have e234 : zI s280 sp 1 = x203 := by rw [zpul_I hus280]; exact e234
        have e241 : zI s280 sp 2 = x211 := by rw [zpul_I hus280]; exact e241
        have Y281 : ∀ j, j < N → (zI s280 rs j).toInt = la j := by first | (rw [show zI s280 rs = zI s270 rs from (zpul_I hus280)]; exact Y271) | rw [show zI s280 rs = zI s270 rs from (zpul_I hus280)]
        have jz282 : zJ s280 sp 3 = t242 := (zpul_o hus280 (Or.inr (by decide))).trans jz272
        have jz283 : zJ s280 sp 4 = t250 := (zpul_o hus280 (Or.inr (by decide))).trans jz273
        have jz284 : zJ s280 sp 5 = t259 := (zpul_o hus280 (Or.inr (by decide))).trans jz274
        have jz285 : zJ s280 sp 6 = x269 := zpul_at hus280
        have fa286 : FA s270 s280 := FA.pul hus280
        have mV287 : VLS κ s280 rv N (v) := VLS.fa mV276 fa286 (fun i hi => hTo.k (hkv i hi) (by decide))
        have mD288 : DTL κ s280 ra ma dt := DTL.fa mD277 fa286 (fun j hj => hTo.k (hkd j hj) (by decide))
        have Z289 : ∀ j, j < N → (zJ s280 rg j).toInt = w j := by rw [show zJ s280 rg = zJ s270 rg from zpul_Jo hus280 ((hTo.k trg (by decide)).ne (hTo.k tsp (by decide)) (by decide))]; exact Z278
        refine lv_aload hx hb dX1_liftSample_107 (lv_at hl 0 rfl) ?_
        refine lv_aload_n hx hb dX1_liftSample_109 rfl (lv_at hl 3 rfl) ?_
        obtain ⟨v290, ev290⟩ : ∃ zz9 : Int32, zI σ0 this 8 = zz9 := ⟨_, rfl⟩
        have qv290 : v290.toInt = (zI σ0 this 8).toInt := by rw [ev290]
        refine va_get (D := κ.1) (ci := 1) (v := .int (zI s280 this 8)) (C := RX1) (T := TX1) (N := 13) hx hb hg inX1 hown hK (hT.o3 (hT.k t_this (by decide))).one 0 rfl rfl 8 (by decide) (hg _ k293) (fun _ h9 => h9) rfl dX1_liftSample_110 ?_
        rw [(hT.eI t_this (by decide) rfl ev290)]
        have hTo := hT
        refine pf2_7 hx hb hg hown hK hT (hT.k tsp (by decide)) rfl (hg _ k247) dX1_liftSample_113 (fun H locs s291 hus291 hT => ?_)
        have ev201 : zI s291 this 5 = v201 := (zput_o hus291 (Or.inr (by decide))).trans ev201
        have e227 : zI s291 sp 0 = i := (zput_o hus291 (Or.inr (by decide))).trans e227
        have e234 : zI s291 sp 1 = x203 := (zput_o hus291 (Or.inr (by decide))).trans e234
        have e241 : zI s291 sp 2 = x211 := (zput_o hus291 (Or.inr (by decide))).trans e241
        have Y292 : ∀ j, j < N → (zI s291 rs j).toInt = la j := by first | (rw [show zI s291 rs = zI s280 rs from zput_Io hus291 ((hTo.k trs (by decide)).ne (hTo.k tsp (by decide)) (by decide))]; exact Y281) | rw [show zI s291 rs = zI s280 rs from zput_Io hus291 ((hTo.k trs (by decide)).ne (hTo.k tsp (by decide)) (by decide))]
        have jz293 : zJ s291 sp 3 = t242 := (congrFun (zput_J (x := sp) hus291) 3).trans jz282
        have jz294 : zJ s291 sp 4 = t250 := (congrFun (zput_J (x := sp) hus291) 4).trans jz283
        have jz295 : zJ s291 sp 5 = t259 := (congrFun (zput_J (x := sp) hus291) 5).trans jz284
        have jz296 : zJ s291 sp 6 = x269 := (congrFun (zput_J (x := sp) hus291) 6).trans jz285
        have fa297 : FA s280 s291 := FA.put hTo (hTo.k tsp (by decide)) (by decide) (by decide) hus291
        have mV298 : VLS κ s291 rv N (v) := VLS.fa mV287 fa297 (fun i hi => hTo.k (hkv i hi) (by decide))
        have mD299 : DTL κ s291 ra ma dt := DTL.fa mD288 fa297 (fun j hj => hTo.k (hkd j hj) (by decide))
        have Z300 : ∀ j, j < N → (zJ s291 rg j).toInt = w j := by rw [show zJ s291 rg = zJ s280 rg from (zput_J hus291)]; exact Z289
        have e301 : zI s291 sp 7 = v290 := zput_at hus291
        refine lv_aload hx hb dX1_liftSample_116 (lv_at hl 0 rfl) ?_
        refine lv_aload_n hx hb dX1_liftSample_118 rfl (lv_at hl 3 rfl) ?_
        obtain ⟨v302, ev302⟩ : ∃ zz9 : Int32, zI σ0 this 9 = zz9 := ⟨_, rfl⟩
        have qv302 : v302.toInt = (zI σ0 this 9).toInt := by rw [ev302]
        have b303 : isB v302 := by have q9 := (hT.P (hT.k t_this (by decide)) (by decide)).2; rw [(hT.eI t_this (by decide) rfl ev302)] at q9; exact q9
        refine va_get (D := κ.1) (ci := 1) (v := .int (zI s291 this 9)) (C := RX1) (T := TX1) (N := 13) hx hb hg inX1 hown hK (hT.o3 (hT.k t_this (by decide))).one 0 rfl rfl 9 (by decide) (hg _ k295) (fun _ h9 => h9) rfl dX1_liftSample_119 ?_
        rw [(hT.eI t_this (by decide) rfl ev302)]
        have hTo := hT
        refine pf2_8 hx hb hg hown hK hT (hT.k tsp (by decide)) rfl b303 (hg _ k249) dX1_liftSample_122 (fun H locs s304 hus304 hT => ?_)
        have ev201 : zI s304 this 5 = v201 := (zput_o hus304 (Or.inr (by decide))).trans ev201
        have e227 : zI s304 sp 0 = i := (zput_o hus304 (Or.inr (by decide))).trans e227
        have e234 : zI s304 sp 1 = x203 := (zput_o hus304 (Or.inr (by decide))).trans e234
        have e241 : zI s304 sp 2 = x211 := (zput_o hus304 (Or.inr (by decide))).trans e241
        have e301 : zI s304 sp 7 = v290 := (zput_o hus304 (Or.inr (by decide))).trans e301
        have Y305 : ∀ j, j < N → (zI s304 rs j).toInt = la j := by first | (rw [show zI s304 rs = zI s291 rs from zput_Io hus304 ((hTo.k trs (by decide)).ne (hTo.k tsp (by decide)) (by decide))]; exact Y292) | rw [show zI s304 rs = zI s291 rs from zput_Io hus304 ((hTo.k trs (by decide)).ne (hTo.k tsp (by decide)) (by decide))]
        have jz306 : zJ s304 sp 3 = t242 := (congrFun (zput_J (x := sp) hus304) 3).trans jz293
        have jz307 : zJ s304 sp 4 = t250 := (congrFun (zput_J (x := sp) hus304) 4).trans jz294
        have jz308 : zJ s304 sp 5 = t259 := (congrFun (zput_J (x := sp) hus304) 5).trans jz295
        have jz309 : zJ s304 sp 6 = x269 := (congrFun (zput_J (x := sp) hus304) 6).trans jz296
        have fa310 : FA s291 s304 := FA.put hTo (hTo.k tsp (by decide)) (by decide) (by decide) hus304
        have mV311 : VLS κ s304 rv N (v) := VLS.fa mV298 fa310 (fun i hi => hTo.k (hkv i hi) (by decide))
        have mD312 : DTL κ s304 ra ma dt := DTL.fa mD299 fa310 (fun j hj => hTo.k (hkd j hj) (by decide))
        have Z313 : ∀ j, j < N → (zJ s304 rg j).toInt = w j := by rw [show zJ s304 rg = zJ s291 rg from (zput_J hus304)]; exact Z300
        have e314 : zI s304 sp 8 = v302 := zput_at hus304
        refine lv_aload_n hx hb dX1_liftSample_125 rfl (lv_at hl 3 rfl) ?_
        refine lv_aload_n hx hb dX1_liftSample_126 rfl (lv_at hl 3 rfl) ?_
        refine va_get (D := κ.1) (ci := 1) (v := .ref (kR κ this 11)) (C := RX1) (T := TX1) (N := 13) hx hb hg inX1 hown hK (hT.o3 (hT.k t_this (by decide))).one 0 rfl rfl 11 (by decide) (hg _ k298) (fun _ h9 => h9) rfl dX1_liftSample_127 ?_
        rw [erq]
        refine lv_aload_n hx hb dX1_liftSample_130 rfl (lv_at hl 3 rfl) ?_
        refine va_get (D := κ.1) (ci := 1) (v := .int (zI s304 this 8)) (C := RX1) (T := TX1) (N := 13) hx hb hg inX1 hown hK (hT.o3 (hT.k t_this (by decide))).one 0 rfl rfl 8 (by decide) (hg _ k293) (fun _ h9 => h9) rfl dX1_liftSample_131 ?_
        rw [(hT.eI t_this (by decide) rfl ev290)]
        refine lv_iload_n hx hb dX1_liftSample_134 rfl (lv_at hl 2 rfl) ?_
        refine lv_aload_n hx hb dX1_liftSample_135 rfl (lv_at hl 3 rfl) ?_
        refine va_get (D := κ.1) (ci := 1) (v := .ref (kR κ this 0)) (C := RX1) (T := TX1) (N := 13) hx hb hg inX1 hown hK (hT.o3 (hT.k t_this (by decide))).one 0 rfl rfl 0 (by decide) (hg _ k278) (fun _ h9 => h9) rfl dX1_liftSample_136 ?_
        rw [esrc]
        refine va_get (D := κ.1) (ci := 0) (v := .ref (kR κ src 0)) (C := RX0) (T := TX0) (N := 7) hx hb hg inX0 hown hK (hT.o4 (hT.k tsrc (by decide))).one 0 rfl rfl 0 (by decide) (hg _ k157) (fun _ h9 => h9) rfl dX1_liftSample_139 ?_
        rw [erp]
        refine lv_iload_n hx hb dX1_liftSample_142 rfl (lv_at hl 4 rfl) ?_
        refine va_iald hx hb hK (hT.o8 (hT.k trp (by decide))).one 0 0 rfl rfl (g_in (by omega) (by omega)) dX1_liftSample_143 ?_
        refine lv_topi (fun t315 ht315 => ?_)
        have xt315 : t315.toInt = P k := by rw [ht315, ixc, ei, show zI s304 rp k = zI σ0 rp k from trp.eI hT.2.2.1 (by decide) rfl]; exact hPS k (by omega)
        refine lv_iload_n hx hb dX1_liftSample_144 rfl (lv_at hl 1 rfl) ?_
        have hTo := hT
        refine tVv (n := 5) (As := [.ref rq, .int v290, .int x203, .int t315, .int x211]) (rest := []) hx hb hml hown hg hT hK hX (X1v_predictInto (N := N) (P := P) (v := v) (rl := rl) (k := k) (pa := pa) (q := q) l κ s304 this rq v290 x203 t315 x211  (hT.k t_this (by decide)) (hT.k trq (by decide)) (hSR.ext (by rw [esrc]; exact tsrc) (by rw [esrc, erp]; exact trp) hT.2.2.1 rfl (fun _ => rfl)) h1 (by rw [erv]; exact mV311) (fun i hi => by rw [erv]; exact hvp i hi) (by omega) (by omega) (by omega) ⟨hpk, hkq, hqN⟩ (by omega) h10 sp_ sq_) sub_fX_fLv (mwV k542 k544 k10 k87 k545) ⟨rfl, by decide, by decide, by decide +kernel⟩ ⟨(Nat.le_of_ble_eq_true rfl), (Nat.le_of_ble_eq_true rfl)⟩ (hT.o3 (hT.k t_this (by decide))) rfl rfl hl.1 rfl (Nat.le_of_ble_eq_true rfl) dX1_liftSample_145 zroom.rf (fun s317 H locs hφ hEs317 hT => ?_)
        have ev201 : zI s317 this 5 = v201 := ((hTo.k t_this (by decide)).eI hEs317 (by decide) rfl).trans ev201
        have e227 : zI s317 sp 0 = i := ((hTo.k tsp (by decide)).eI hEs317 (by decide) rfl).trans e227
        have e234 : zI s317 sp 1 = x203 := ((hTo.k tsp (by decide)).eI hEs317 (by decide) rfl).trans e234
        have e241 : zI s317 sp 2 = x211 := ((hTo.k tsp (by decide)).eI hEs317 (by decide) rfl).trans e241
        have e301 : zI s317 sp 7 = v290 := ((hTo.k tsp (by decide)).eI hEs317 (by decide) rfl).trans e301
        have e314 : zI s317 sp 8 = v302 := ((hTo.k tsp (by decide)).eI hEs317 (by decide) rfl).trans e314
        have Y318 : ∀ j, j < N → (zI s317 rs j).toInt = la j := by first | (rw [show zI s317 rs = zI s304 rs from funext fun k => (hTo.k trs (by decide)).eI hEs317 (by decide) rfl]; exact Y305) | rw [show zI s317 rs = zI s304 rs from funext fun k => (hTo.k trs (by decide)).eI hEs317 (by decide) rfl]
        have jz319 : zJ s317 sp 3 = t242 := ((hTo.k tsp (by decide)).eJ hEs317 (by decide) rfl).trans jz306
        have jz320 : zJ s317 sp 4 = t250 := ((hTo.k tsp (by decide)).eJ hEs317 (by decide) rfl).trans jz307
        have jz321 : zJ s317 sp 5 = t259 := ((hTo.k tsp (by decide)).eJ hEs317 (by decide) rfl).trans jz308
        have jz322 : zJ s317 sp 6 = x269 := ((hTo.k tsp (by decide)).eJ hEs317 (by decide) rfl).trans jz309
        have Z323 : ∀ j, j < N → (zJ s317 rg j).toInt = w j := by rw [show zJ s317 rg = zJ s304 rg from funext fun k => (hTo.k trg (by decide)).eJ hEs317 (by decide) rfl]; exact Z313
        obtain ⟨f324, f325⟩ := hφ
        have mV326 : VLS κ s317 rv N (v) := VLS.fw mV311 f325 (fun i hi => hTo.k (hkv i hi) (by decide)) hvp
        have mD327 : DTL κ s317 ra ma dt := DTL.fw mD312 f325 (fun j hj => hTo.k (hkd j hj) (by decide)) hdp
        refine lv_aload hx hb dX1_liftSample_148 (lv_at hl 0 rfl) ?_
        refine va_get (D := κ.1) (ci := 2) (v := .ref (kR κ sp 9)) (C := RX2) (T := TX2) (N := 10) hx hb hg inX2 hown hK (hT.o2 (hT.k tsp (by decide))).one 0 rfl rfl 9 (by decide) (hg _ k252) (fun _ h9 => h9) rfl dX1_liftSample_150 ?_
        rw [erd]
        refine lv_aload_n hx hb dX1_liftSample_153 rfl (lv_at hl 3 rfl) ?_
        refine va_get (D := κ.1) (ci := 1) (v := .ref (kR κ this 1)) (C := RX1) (T := TX1) (N := 13) hx hb hg inX1 hown hK (hT.o3 (hT.k t_this (by decide))).one 0 rfl rfl 1 (by decide) (hg _ k279) (fun _ h9 => h9) rfl dX1_liftSample_154 ?_
        rw [erv]
        refine lv_iload_n hx hb dX1_liftSample_157 rfl (lv_at hl 4 rfl) ?_
        refine va_aldq hx hb hK (hT.o10 (hT.k trv (by decide))).one 0 4 rfl rfl (g_in (by omega) (by omega)) dX1_liftSample_158 ?_
        obtain ⟨r329, er329⟩ : ∃ z, kR κ rv (ix i) = z := ⟨_, rfl⟩
        have tr329 : zk σ0 r329 1 := by rw [← er329]; exact hT0.ref trv (by decide) (zR10 (ix_lt (by omega) (by omega))) (by decide)
        refine tv (.ref r329) (by rw [← er329]; rfl) ?_
        have wr329 : WV s317 r329 (v k) := by rw [← er329, show ix i = k from ixof (by omega)]; exact mV326 k (by omega)
        obtain ⟨h332, oh332, th332⟩ := hT.o1 (hT.k trd (by decide))
        have hTo := hT
        refine tVv (n := 1) (As := [.ref r329]) (rest := []) hx hb hml hown hg hT hK hX (X4v_copyFrom l κ s317 rd r329  (hT.k trd (by decide)) (hT.k tr329 (by decide)) wr329) sub_fX_fLv (mwV k455 k456 k457 k88 k458) ⟨rfl, by decide, by decide, by decide +kernel⟩ ⟨(Nat.le_of_ble_eq_true rfl), (Nat.le_of_ble_eq_true rfl)⟩ oh332 rfl rfl hl.1 rfl (Nat.le_of_ble_eq_true rfl) dX1_liftSample_159 zroom.rf (fun s331 H locs hφ hEs331 hT => ?_)
        have ev201 : zI s331 this 5 = v201 := ((hTo.k t_this (by decide)).eI hEs331 (by decide) rfl).trans ev201
        have e227 : zI s331 sp 0 = i := ((hTo.k tsp (by decide)).eI hEs331 (by decide) rfl).trans e227
        have e234 : zI s331 sp 1 = x203 := ((hTo.k tsp (by decide)).eI hEs331 (by decide) rfl).trans e234
        have e241 : zI s331 sp 2 = x211 := ((hTo.k tsp (by decide)).eI hEs331 (by decide) rfl).trans e241
        have e301 : zI s331 sp 7 = v290 := ((hTo.k tsp (by decide)).eI hEs331 (by decide) rfl).trans e301
        have e314 : zI s331 sp 8 = v302 := ((hTo.k tsp (by decide)).eI hEs331 (by decide) rfl).trans e314
        have Y333 : ∀ j, j < N → (zI s331 rs j).toInt = la j := by first | (rw [show zI s331 rs = zI s317 rs from funext fun k => (hTo.k trs (by decide)).eI hEs331 (by decide) rfl]; exact Y318) | rw [show zI s331 rs = zI s317 rs from funext fun k => (hTo.k trs (by decide)).eI hEs331 (by decide) rfl]
        have jz334 : zJ s331 sp 3 = t242 := ((hTo.k tsp (by decide)).eJ hEs331 (by decide) rfl).trans jz319
        have jz335 : zJ s331 sp 4 = t250 := ((hTo.k tsp (by decide)).eJ hEs331 (by decide) rfl).trans jz320
        have jz336 : zJ s331 sp 5 = t259 := ((hTo.k tsp (by decide)).eJ hEs331 (by decide) rfl).trans jz321
        have jz337 : zJ s331 sp 6 = x269 := ((hTo.k tsp (by decide)).eJ hEs331 (by decide) rfl).trans jz322
        have Z338 : ∀ j, j < N → (zJ s331 rg j).toInt = w j := by rw [show zJ s331 rg = zJ s317 rg from funext fun k => (hTo.k trg (by decide)).eJ hEs331 (by decide) rfl]; exact Z323
        obtain ⟨f339, f340⟩ := hφ
        have mV341 : VLS κ s331 rv N (v) := VLS.fw mV326 f340 (fun i hi => hTo.k (hkv i hi) (by decide)) hvd
        have mD342 : DTL κ s331 ra ma dt := DTL.fw mD327 f340 (fun j hj => hTo.k (hkd j hj) (by decide)) hdd
        have wn343 := f340 rq (Ne.symm hdq) (hTo.k trq (by decide)) _ f324
        refine lv_aload hx hb dX1_liftSample_162 (lv_at hl 0 rfl) ?_
        refine va_get (D := κ.1) (ci := 2) (v := .ref (kR κ sp 9)) (C := RX2) (T := TX2) (N := 10) hx hb hg inX2 hown hK (hT.o2 (hT.k tsp (by decide))).one 0 rfl rfl 9 (by decide) (hg _ k252) (fun _ h9 => h9) rfl dX1_liftSample_164 ?_
        rw [erd]
        refine lv_aload_n hx hb dX1_liftSample_167 rfl (lv_at hl 3 rfl) ?_
        refine va_get (D := κ.1) (ci := 1) (v := .ref (kR κ this 11)) (C := RX1) (T := TX1) (N := 13) hx hb hg inX1 hown hK (hT.o3 (hT.k t_this (by decide))).one 0 rfl rfl 11 (by decide) (hg _ k298) (fun _ h9 => h9) rfl dX1_liftSample_168 ?_
        rw [erq]
        refine lv_ldc2 hx hb hown (hg _ k550) dX1_liftSample_171 ?_
        obtain ⟨h346, oh346, th346⟩ := hT.o1 (hT.k trd (by decide))
        have hTo := hT
        refine tVv (n := 2) (As := [.ref rq, .long (-1)]) (rest := []) hx hb hml hown hg hT hK hX (X4v_add l κ s331 rd rq (-1)  (hT.k trd (by decide)) (hT.k trq (by decide)) f339 wn343 (by rw [jm1]; omega) (by rw [jm1]; omega) (by rw [jm1]; omega) (by rw [jm1]; omega)) sub_fX_fLv (mwV k340 k341 k342 k88 k343) ⟨rfl, by decide, by decide, by decide +kernel⟩ ⟨(Nat.le_of_ble_eq_true rfl), (Nat.le_of_ble_eq_true rfl)⟩ oh346 rfl rfl hl.1 rfl (Nat.le_of_ble_eq_true rfl) dX1_liftSample_174 zroom.rf (fun s345 H locs hφ hEs345 hT => ?_)
        have ev201 : zI s345 this 5 = v201 := ((hTo.k t_this (by decide)).eI hEs345 (by decide) rfl).trans ev201
        have e227 : zI s345 sp 0 = i := ((hTo.k tsp (by decide)).eI hEs345 (by decide) rfl).trans e227
        have e234 : zI s345 sp 1 = x203 := ((hTo.k tsp (by decide)).eI hEs345 (by decide) rfl).trans e234
        have e241 : zI s345 sp 2 = x211 := ((hTo.k tsp (by decide)).eI hEs345 (by decide) rfl).trans e241
        have e301 : zI s345 sp 7 = v290 := ((hTo.k tsp (by decide)).eI hEs345 (by decide) rfl).trans e301
        have e314 : zI s345 sp 8 = v302 := ((hTo.k tsp (by decide)).eI hEs345 (by decide) rfl).trans e314
        have Y347 : ∀ j, j < N → (zI s345 rs j).toInt = la j := by first | (rw [show zI s345 rs = zI s331 rs from funext fun k => (hTo.k trs (by decide)).eI hEs345 (by decide) rfl]; exact Y333) | rw [show zI s345 rs = zI s331 rs from funext fun k => (hTo.k trs (by decide)).eI hEs345 (by decide) rfl]
        have jz348 : zJ s345 sp 3 = t242 := ((hTo.k tsp (by decide)).eJ hEs345 (by decide) rfl).trans jz334
        have jz349 : zJ s345 sp 4 = t250 := ((hTo.k tsp (by decide)).eJ hEs345 (by decide) rfl).trans jz335
        have jz350 : zJ s345 sp 5 = t259 := ((hTo.k tsp (by decide)).eJ hEs345 (by decide) rfl).trans jz336
        have jz351 : zJ s345 sp 6 = x269 := ((hTo.k tsp (by decide)).eJ hEs345 (by decide) rfl).trans jz337
        have Z352 : ∀ j, j < N → (zJ s345 rg j).toInt = w j := by rw [show zJ s345 rg = zJ s331 rg from funext fun k => (hTo.k trg (by decide)).eJ hEs345 (by decide) rfl]; exact Z338
        obtain ⟨f353, f354⟩ := hφ
        have mV355 : VLS κ s345 rv N (v) := VLS.fw mV341 f354 (fun i hi => hTo.k (hkv i hi) (by decide)) hvd
        have mD356 : DTL κ s345 ra ma dt := DTL.fw mD342 f354 (fun j hj => hTo.k (hkd j hj) (by decide)) hdd
        have wv357 : WV s345 rd d := by have z9 := f353; rw [show v k + prd P v rl k pa q * (-1 : Int64).toInt = d from by rw [jm1]; omega] at z9; exact z9
        refine lv_aload_n hx hb dX1_liftSample_177 rfl (lv_at hl 3 rfl) ?_
        refine lv_aload hx hb dX1_liftSample_178 (lv_at hl 0 rfl) ?_
        refine lv_iconst (v := 1) hx hb dX1_liftSample_180 (by decide) ?_
        have jv3 := jz348
        have jv4 := jz349
        have jv5 := jz350
        have jv6 := jz351
        have hJ : ∀ k, 3 ≤ k → k ≤ 6 → 0 ≤ (zJ s345 sp k).toInt ∧ (zJ s345 sp k).toInt ≤ 20000 := fun k k1 k2 => by rcases (show k = 3 ∨ k = 4 ∨ k = 5 ∨ k = 6 by omega) with rfl | rfl | rfl | rfl; (rw [jv3]; omega); (rw [jv4]; omega); (rw [jv5]; omega); (rw [jv6]; omega)
        have hTo := hT
        refine tVv (n := 2) (As := [.ref sp, .int 1]) (rest := []) hx hb hml hown hg hT hK hX (X1v_addGains (N := N) (M := ma) (v := v) (dt := dt) (d := d) (E := E) (F := F) (W := w k) (u := u) (pa := pa) (q := q) l κ s345 this sp 1  (hT.k t_this (by decide)) (hT.k tsp (by decide)) (by rw [erv]; exact mV355) (by rw [era]; exact mD356) h2 ⟨hP48, by omega⟩ (by rw [erd]; exact wv357) (fun i hi => by rw [erd, ← erm, ← era]; exact h2.vd hi (by omega)) (by rw [erd, erq]; exact hdq) (by rw [e234]; omega) (by rw [e241]; omega) ⟨by omega, hqN⟩ (by rw [e314]; omega) (by rw [jv3, jv6]; omega) (by rw [jv4, jv5, jv6]; omega) (by rw [jv5]; omega) hJ n3 n4 n5 n6 sp_ sq_ (by omega)) sub_fX_fLv (mwV k586 k588 k15 k87 k589) ⟨rfl, by decide, by decide, by decide +kernel⟩ ⟨(Nat.le_of_ble_eq_true rfl), (Nat.le_of_ble_eq_true rfl)⟩ (hT.o3 (hT.k t_this (by decide))) rfl rfl hl.1 rfl (Nat.le_of_ble_eq_true rfl) dX1_liftSample_181 zroom.rf (fun s359 H locs hφ hEs359 hT => ?_)
        have ev201 : zI s359 this 5 = v201 := ((hTo.k t_this (by decide)).eI hEs359 (by decide) rfl).trans ev201
        have e227 : zI s359 sp 0 = i := ((hTo.k tsp (by decide)).eI hEs359 (by decide) rfl).trans e227
        have e234 : zI s359 sp 1 = x203 := ((hTo.k tsp (by decide)).eI hEs359 (by decide) rfl).trans e234
        have e241 : zI s359 sp 2 = x211 := ((hTo.k tsp (by decide)).eI hEs359 (by decide) rfl).trans e241
        have e301 : zI s359 sp 7 = v290 := ((hTo.k tsp (by decide)).eI hEs359 (by decide) rfl).trans e301
        have e314 : zI s359 sp 8 = v302 := ((hTo.k tsp (by decide)).eI hEs359 (by decide) rfl).trans e314
        have Y360 : ∀ j, j < N → (zI s359 rs j).toInt = la j := by first | (rw [show zI s359 rs = zI s345 rs from funext fun k => (hTo.k trs (by decide)).eI hEs359 (by decide) rfl]; exact Y347) | rw [show zI s359 rs = zI s345 rs from funext fun k => (hTo.k trs (by decide)).eI hEs359 (by decide) rfl]
        have jz361 : zJ s359 sp 3 = t242 := ((hTo.k tsp (by decide)).eJ hEs359 (by decide) rfl).trans jz348
        have jz362 : zJ s359 sp 4 = t250 := ((hTo.k tsp (by decide)).eJ hEs359 (by decide) rfl).trans jz349
        have jz363 : zJ s359 sp 5 = t259 := ((hTo.k tsp (by decide)).eJ hEs359 (by decide) rfl).trans jz350
        have jz364 : zJ s359 sp 6 = x269 := ((hTo.k tsp (by decide)).eJ hEs359 (by decide) rfl).trans jz351
        have Z365 : ∀ j, j < N → (zJ s359 rg j).toInt = w j := by rw [show zJ s359 rg = zJ s345 rg from funext fun k => (hTo.k trg (by decide)).eJ hEs359 (by decide) rfl]; exact Z352
        obtain ⟨f366, f367, f368⟩ := hφ
        have mV369 : VLS κ s359 rv N (updi (updi v pa (v pa + gan u (w k) d E F)) q (v q + gan u (w k) d F E)) := by rw [← erv]; exact f366
        have mD370 : DTL κ s359 ra ma dt := by rw [← era]; exact f367
        have mD371 : DTL κ s359 ra (ma + 1) (updi dt ma d) := mD370.more (by rw [erm, ← erd]; exact f368)
        have hkd : ∀ j, j < ma + 1 → zk σ0 (kR κ (kR κ ra j) 9) 1 := fun j hj => hT0.kd tra (by omega)
        refine lv_aload_n hx hb dX1_liftSample_184 rfl (lv_at hl 3 rfl) ?_
        refine va_get (D := κ.1) (ci := 1) (v := .ref (kR κ this 2)) (C := RX1) (T := TX1) (N := 13) hx hb hg inX1 hown hK (hT.o3 (hT.k t_this (by decide))).one 0 rfl rfl 2 (by decide) (hg _ k281) (fun _ h9 => h9) rfl dX1_liftSample_185 ?_
        rw [erg]
        refine lv_iload_n hx hb dX1_liftSample_188 rfl (lv_at hl 2 rfl) ?_
        refine lv_aload hx hb dX1_liftSample_189 (lv_at hl 0 rfl) ?_
        have hTo := hT
        refine tVl (n := 0) (As := []) (rest := [.int x203, .ref rg]) hx hb hml hown hg hT hK hX (X2v_leftWeightAfter l κ s359 sp  (hT.k tsp (by decide)) (by rw [jz361]; omega) (by rw [jz361]; omega) (by rw [jz364]; omega) (by rw [jz364]; omega)) sub_fE_fLv (mwV k590 k591 k592 k89 k593) ⟨rfl, by decide, by decide, by decide +kernel⟩ ⟨(Nat.le_of_ble_eq_true rfl), (Nat.le_of_ble_eq_true rfl)⟩ (hT.o2 (hT.k tsp (by decide))) rfl rfl hl.1 rfl (Nat.le_of_ble_eq_true rfl) dX1_liftSample_191 zroom.rf (fun x372 s373 H locs hφ hEs373 hT => ?_)
        have ev201 : zI s373 this 5 = v201 := ((hTo.k t_this (by decide)).eI hEs373 (by decide) rfl).trans ev201
        have e227 : zI s373 sp 0 = i := ((hTo.k tsp (by decide)).eI hEs373 (by decide) rfl).trans e227
        have e234 : zI s373 sp 1 = x203 := ((hTo.k tsp (by decide)).eI hEs373 (by decide) rfl).trans e234
        have e241 : zI s373 sp 2 = x211 := ((hTo.k tsp (by decide)).eI hEs373 (by decide) rfl).trans e241
        have e301 : zI s373 sp 7 = v290 := ((hTo.k tsp (by decide)).eI hEs373 (by decide) rfl).trans e301
        have e314 : zI s373 sp 8 = v302 := ((hTo.k tsp (by decide)).eI hEs373 (by decide) rfl).trans e314
        have Y374 : ∀ j, j < N → (zI s373 rs j).toInt = la j := by first | (rw [show zI s373 rs = zI s359 rs from funext fun k => (hTo.k trs (by decide)).eI hEs373 (by decide) rfl]; exact Y360) | rw [show zI s373 rs = zI s359 rs from funext fun k => (hTo.k trs (by decide)).eI hEs373 (by decide) rfl]
        have jz375 : zJ s373 sp 3 = t242 := ((hTo.k tsp (by decide)).eJ hEs373 (by decide) rfl).trans jz361
        have jz376 : zJ s373 sp 4 = t250 := ((hTo.k tsp (by decide)).eJ hEs373 (by decide) rfl).trans jz362
        have jz377 : zJ s373 sp 5 = t259 := ((hTo.k tsp (by decide)).eJ hEs373 (by decide) rfl).trans jz363
        have jz378 : zJ s373 sp 6 = x269 := ((hTo.k tsp (by decide)).eJ hEs373 (by decide) rfl).trans jz364
        have fa379 : FA s359 s373 := FA.ro hTo hEs373 (fun _ => rfl) (fun _ _ => rfl)
        have mV380 : VLS κ s373 rv N (updi (updi v pa (v pa + gan u (w k) d E F)) q (v q + gan u (w k) d F E)) := VLS.fa mV369 fa379 (fun i hi => hTo.k (hkv i hi) (by decide))
        have mD381 : DTL κ s373 ra (ma + 1) (updi dt ma d) := DTL.fa mD371 fa379 (fun j hj => hTo.k (hkd j hj) (by decide))
        have Z382 : ∀ j, j < N → (zJ s373 rg j).toInt = w j := by rw [show zJ s373 rg = zJ s359 rg from funext fun k => (hTo.k trg (by decide)).eJ hEs373 (by decide) rfl]; exact Z365
        have f383 := hφ
        rw [jz361] at f383
        rw [jz364] at f383
        have zE : x372.toInt = E := by omega
        have hTo := hT
        refine tastl (n := 48) hx hb hK hT (hT.k trg (by decide)) ⟨by decide, by decide⟩ (fun _ _ _ => rfl) (fun _ _ => trivial) (fun _ => rfl) (by omega) (by omega) dX1_liftSample_194 (fun H locs s384 hus384 hT => ?_)
        have ev201 : zI s384 this 5 = v201 := by rw [zpul_I hus384]; exact ev201
        have e227 : zI s384 sp 0 = i := by rw [zpul_I hus384]; exact e227
        have e234 : zI s384 sp 1 = x203 := by rw [zpul_I hus384]; exact e234
        have e241 : zI s384 sp 2 = x211 := by rw [zpul_I hus384]; exact e241
        have e301 : zI s384 sp 7 = v290 := by rw [zpul_I hus384]; exact e301
        have e314 : zI s384 sp 8 = v302 := by rw [zpul_I hus384]; exact e314
        have Y385 : ∀ j, j < N → (zI s384 rs j).toInt = la j := by first | (rw [show zI s384 rs = zI s373 rs from (zpul_I hus384)]; exact Y374) | rw [show zI s384 rs = zI s373 rs from (zpul_I hus384)]
        have jz386 : zJ s384 sp 3 = t242 := (zpul_o hus384 (Or.inl ((hTo.k tsp (by decide)).ne (hTo.k trg (by decide)) (by decide)))).trans jz375
        have jz387 : zJ s384 sp 4 = t250 := (zpul_o hus384 (Or.inl ((hTo.k tsp (by decide)).ne (hTo.k trg (by decide)) (by decide)))).trans jz376
        have jz388 : zJ s384 sp 5 = t259 := (zpul_o hus384 (Or.inl ((hTo.k tsp (by decide)).ne (hTo.k trg (by decide)) (by decide)))).trans jz377
        have jz389 : zJ s384 sp 6 = x269 := (zpul_o hus384 (Or.inl ((hTo.k tsp (by decide)).ne (hTo.k trg (by decide)) (by decide)))).trans jz378
        have fa390 : FA s373 s384 := FA.pul hus384
        have mV391 : VLS κ s384 rv N (updi (updi v pa (v pa + gan u (w k) d E F)) q (v q + gan u (w k) d F E)) := VLS.fa mV380 fa390 (fun i hi => hTo.k (hkv i hi) (by decide))
        have mD392 : DTL κ s384 ra (ma + 1) (updi dt ma d) := DTL.fa mD381 fa390 (fun j hj => hTo.k (hkd j hj) (by decide))
        have gw1 : zJ s384 rg = vp_updL (zJ s373 rg) pa x372 := by rw [zpul_Ja hus384, show ix x203 = pa from ixof (by omega)]
        refine lv_aload_n hx hb dX1_liftSample_195 rfl (lv_at hl 3 rfl) ?_
        refine va_get (D := κ.1) (ci := 1) (v := .ref (kR κ this 2)) (C := RX1) (T := TX1) (N := 13) hx hb hg inX1 hown hK (hT.o3 (hT.k t_this (by decide))).one 0 rfl rfl 2 (by decide) (hg _ k281) (fun _ h9 => h9) rfl dX1_liftSample_196 ?_
        rw [erg]
        refine lv_iload_n hx hb dX1_liftSample_199 rfl (lv_at hl 1 rfl) ?_
        refine lv_aload hx hb dX1_liftSample_200 (lv_at hl 0 rfl) ?_
        have hTo := hT
        refine tVl (n := 0) (As := []) (rest := [.int x211, .ref rg]) hx hb hml hown hg hT hK hX (X2v_rightWeightAfter l κ s384 sp  (hT.k tsp (by decide)) (by rw [jz387]; omega) (by rw [jz387]; omega) (by rw [jz388]; omega) (by rw [jz388]; omega) (by rw [jz389]; omega) (by rw [jz389]; omega)) sub_fE_fLv (mwV k594 k595 k596 k89 k597) ⟨rfl, by decide, by decide, by decide +kernel⟩ ⟨(Nat.le_of_ble_eq_true rfl), (Nat.le_of_ble_eq_true rfl)⟩ (hT.o2 (hT.k tsp (by decide))) rfl rfl hl.1 rfl (Nat.le_of_ble_eq_true rfl) dX1_liftSample_202 zroom.rf (fun x393 s394 H locs hφ hEs394 hT => ?_)
        have ev201 : zI s394 this 5 = v201 := ((hTo.k t_this (by decide)).eI hEs394 (by decide) rfl).trans ev201
        have e227 : zI s394 sp 0 = i := ((hTo.k tsp (by decide)).eI hEs394 (by decide) rfl).trans e227
        have e234 : zI s394 sp 1 = x203 := ((hTo.k tsp (by decide)).eI hEs394 (by decide) rfl).trans e234
        have e241 : zI s394 sp 2 = x211 := ((hTo.k tsp (by decide)).eI hEs394 (by decide) rfl).trans e241
        have e301 : zI s394 sp 7 = v290 := ((hTo.k tsp (by decide)).eI hEs394 (by decide) rfl).trans e301
        have e314 : zI s394 sp 8 = v302 := ((hTo.k tsp (by decide)).eI hEs394 (by decide) rfl).trans e314
        have Y395 : ∀ j, j < N → (zI s394 rs j).toInt = la j := by first | (rw [show zI s394 rs = zI s384 rs from funext fun k => (hTo.k trs (by decide)).eI hEs394 (by decide) rfl]; exact Y385) | rw [show zI s394 rs = zI s384 rs from funext fun k => (hTo.k trs (by decide)).eI hEs394 (by decide) rfl]
        have jz396 : zJ s394 sp 3 = t242 := ((hTo.k tsp (by decide)).eJ hEs394 (by decide) rfl).trans jz386
        have jz397 : zJ s394 sp 4 = t250 := ((hTo.k tsp (by decide)).eJ hEs394 (by decide) rfl).trans jz387
        have jz398 : zJ s394 sp 5 = t259 := ((hTo.k tsp (by decide)).eJ hEs394 (by decide) rfl).trans jz388
        have jz399 : zJ s394 sp 6 = x269 := ((hTo.k tsp (by decide)).eJ hEs394 (by decide) rfl).trans jz389
        have fa400 : FA s384 s394 := FA.ro hTo hEs394 (fun _ => rfl) (fun _ _ => rfl)
        have mV401 : VLS κ s394 rv N (updi (updi v pa (v pa + gan u (w k) d E F)) q (v q + gan u (w k) d F E)) := VLS.fa mV391 fa400 (fun i hi => hTo.k (hkv i hi) (by decide))
        have mD402 : DTL κ s394 ra (ma + 1) (updi dt ma d) := DTL.fa mD392 fa400 (fun j hj => hTo.k (hkd j hj) (by decide))
        have Z403 : zJ s394 rg = vp_updL (zJ s373 rg) pa x372 := by rw [show zJ s394 rg = zJ s384 rg from funext fun k => (hTo.k trg (by decide)).eJ hEs394 (by decide) rfl]; exact gw1
        have f404 := hφ
        rw [jz387] at f404
        rw [jz388] at f404
        rw [jz389] at f404
        have zF : x393.toInt = F := by omega
        have hTo := hT
        refine tastl (n := 48) hx hb hK hT (hT.k trg (by decide)) ⟨by decide, by decide⟩ (fun _ _ _ => rfl) (fun _ _ => trivial) (fun _ => rfl) (by omega) (by omega) dX1_liftSample_205 (fun H locs s405 hus405 hT => ?_)
        have ev201 : zI s405 this 5 = v201 := by rw [zpul_I hus405]; exact ev201
        have e227 : zI s405 sp 0 = i := by rw [zpul_I hus405]; exact e227
        have e234 : zI s405 sp 1 = x203 := by rw [zpul_I hus405]; exact e234
        have e241 : zI s405 sp 2 = x211 := by rw [zpul_I hus405]; exact e241
        have e301 : zI s405 sp 7 = v290 := by rw [zpul_I hus405]; exact e301
        have e314 : zI s405 sp 8 = v302 := by rw [zpul_I hus405]; exact e314
        have Y406 : ∀ j, j < N → (zI s405 rs j).toInt = la j := by first | (rw [show zI s405 rs = zI s394 rs from (zpul_I hus405)]; exact Y395) | rw [show zI s405 rs = zI s394 rs from (zpul_I hus405)]
        have jz407 : zJ s405 sp 3 = t242 := (zpul_o hus405 (Or.inl ((hTo.k tsp (by decide)).ne (hTo.k trg (by decide)) (by decide)))).trans jz396
        have jz408 : zJ s405 sp 4 = t250 := (zpul_o hus405 (Or.inl ((hTo.k tsp (by decide)).ne (hTo.k trg (by decide)) (by decide)))).trans jz397
        have jz409 : zJ s405 sp 5 = t259 := (zpul_o hus405 (Or.inl ((hTo.k tsp (by decide)).ne (hTo.k trg (by decide)) (by decide)))).trans jz398
        have jz410 : zJ s405 sp 6 = x269 := (zpul_o hus405 (Or.inl ((hTo.k tsp (by decide)).ne (hTo.k trg (by decide)) (by decide)))).trans jz399
        have fa411 : FA s394 s405 := FA.pul hus405
        have mV412 : VLS κ s405 rv N (updi (updi v pa (v pa + gan u (w k) d E F)) q (v q + gan u (w k) d F E)) := VLS.fa mV401 fa411 (fun i hi => hTo.k (hkv i hi) (by decide))
        have mD413 : DTL κ s405 ra (ma + 1) (updi dt ma d) := DTL.fa mD402 fa411 (fun j hj => hTo.k (hkd j hj) (by decide))
        have gw414 : ∀ j, j < N → (zJ s405 rg j).toInt = updi (updi w pa E) q F j := by rw [zpul_Ja hus405, Z403, show ix x211 = q from ixof (by omega)]; exact w2_up Z382 zE zF
        refine lv_aload_n hx hb dX1_liftSample_206 rfl (lv_at hl 3 rfl) ?_
        refine va_get (D := κ.1) (ci := 1) (v := .ref (kR κ this 3)) (C := RX1) (T := TX1) (N := 13) hx hb hg inX1 hown hK (hT.o3 (hT.k t_this (by decide))).one 0 rfl rfl 3 (by decide) (hg _ k283) (fun _ h9 => h9) rfl dX1_liftSample_207 ?_
        rw [ers]
        refine lv_iload_n hx hb dX1_liftSample_210 rfl (lv_at hl 4 rfl) ?_
        refine lv_aload_n hx hb dX1_liftSample_211 rfl (lv_at hl 3 rfl) ?_
        refine va_get (D := κ.1) (ci := 1) (v := .int (zI s405 this 5)) (C := RX1) (T := TX1) (N := 13) hx hb hg inX1 hown hK (hT.o3 (hT.k t_this (by decide))).one 0 rfl rfl 5 (by decide) (hg _ k287) (fun _ h9 => h9) rfl dX1_liftSample_212 ?_
        rw [ev201]
        have hTo := hT
        refine tasti (n := 48) hx hb hK hT (hT.k trs (by decide)) ⟨by decide, by decide⟩ (fun _ _ _ => rfl) (fun _ _ => trivial) (fun _ => rfl) (by omega) (by omega) dX1_liftSample_215 (fun H locs s415 hus415 hT => ?_)
        have ev201 : zI s415 this 5 = v201 := (zput_o hus415 (Or.inl ((hTo.k t_this (by decide)).ne (hTo.k trs (by decide)) (by decide)))).trans ev201
        have e227 : zI s415 sp 0 = i := (zput_o hus415 (Or.inl ((hTo.k tsp (by decide)).ne (hTo.k trs (by decide)) (by decide)))).trans e227
        have e234 : zI s415 sp 1 = x203 := (zput_o hus415 (Or.inl ((hTo.k tsp (by decide)).ne (hTo.k trs (by decide)) (by decide)))).trans e234
        have e241 : zI s415 sp 2 = x211 := (zput_o hus415 (Or.inl ((hTo.k tsp (by decide)).ne (hTo.k trs (by decide)) (by decide)))).trans e241
        have e301 : zI s415 sp 7 = v290 := (zput_o hus415 (Or.inl ((hTo.k tsp (by decide)).ne (hTo.k trs (by decide)) (by decide)))).trans e301
        have e314 : zI s415 sp 8 = v302 := (zput_o hus415 (Or.inl ((hTo.k tsp (by decide)).ne (hTo.k trs (by decide)) (by decide)))).trans e314
        have jz416 : zJ s415 sp 3 = t242 := (congrFun (zput_J (x := sp) hus415) 3).trans jz407
        have jz417 : zJ s415 sp 4 = t250 := (congrFun (zput_J (x := sp) hus415) 4).trans jz408
        have jz418 : zJ s415 sp 5 = t259 := (congrFun (zput_J (x := sp) hus415) 5).trans jz409
        have jz419 : zJ s415 sp 6 = x269 := (congrFun (zput_J (x := sp) hus415) 6).trans jz410
        have fa420 : FA s405 s415 := FA.put hTo (hTo.k trs (by decide)) (by decide) (by decide) hus415
        have mV421 : VLS κ s415 rv N (updi (updi v pa (v pa + gan u (w k) d E F)) q (v q + gan u (w k) d F E)) := VLS.fa mV412 fa420 (fun i hi => hTo.k (hkv i hi) (by decide))
        have mD422 : DTL κ s415 ra (ma + 1) (updi dt ma d) := DTL.fa mD413 fa420 (fun j hj => hTo.k (hkd j hj) (by decide))
        have Z423 : ∀ j, j < N → (zJ s415 rg j).toInt = updi (updi w pa E) q F j := by rw [show zJ s415 rg = zJ s405 rg from (zput_J hus415)]; exact gw414
        have mk424 : ∀ j, j < N → (zI s415 rs j).toInt = updi la k ma j := fun j hj => by
          by_cases e9 : j = k
          · rw [e9, updi_at, ← ei, zput_at hus415]; omega
          · rw [updi_o e9, zput_o hus415 (Or.inr (by rw [ei]; exact e9))]; exact Y406 j hj
        refine lv_aload_n hx hb dX1_liftSample_216 rfl (lv_at hl 3 rfl) ?_
        refine lv_dup hx hb dX1_liftSample_217 rfl ?_
        refine va_get (D := κ.1) (ci := 1) (v := .int (zI s415 this 5)) (C := RX1) (T := TX1) (N := 13) hx hb hg inX1 hown hK (hT.o3 (hT.k t_this (by decide))).one 0 rfl rfl 5 (by decide) (hg _ k287) (fun _ h9 => h9) rfl dX1_liftSample_218 ?_
        rw [ev201]
        refine lv_iconst (v := 1) hx hb dX1_liftSample_221 (by decide) ?_
        refine lv_iadd hx hb dX1_liftSample_222 ?_
        first | refine g_add (by omega) (by omega) (fun t425 ht425 => ?_) | refine lv_topi (fun t425 ht425 => ?_)
        have hTo := hT
        refine pf3_5 hx hb hg hown hK hT (hT.k t_this (by decide)) rfl ⟨by omega, by omega⟩ (hg _ k287) dX1_liftSample_223 (fun H locs s426 hus426 hT => ?_)
        have e227 : zI s426 sp 0 = i := (zput_o hus426 (Or.inr (by decide))).trans e227
        have e234 : zI s426 sp 1 = x203 := (zput_o hus426 (Or.inr (by decide))).trans e234
        have e241 : zI s426 sp 2 = x211 := (zput_o hus426 (Or.inr (by decide))).trans e241
        have e301 : zI s426 sp 7 = v290 := (zput_o hus426 (Or.inr (by decide))).trans e301
        have e314 : zI s426 sp 8 = v302 := (zput_o hus426 (Or.inr (by decide))).trans e314
        have Y427 : ∀ j, j < N → (zI s426 rs j).toInt = updi la k ma j := by first | (rw [show zI s426 rs = zI s415 rs from zput_Io hus426 ((hTo.k trs (by decide)).ne (hTo.k t_this (by decide)) (by decide))]; exact mk424) | rw [show zI s426 rs = zI s415 rs from zput_Io hus426 ((hTo.k trs (by decide)).ne (hTo.k t_this (by decide)) (by decide))]
        have jz428 : zJ s426 sp 3 = t242 := (congrFun (zput_J (x := sp) hus426) 3).trans jz416
        have jz429 : zJ s426 sp 4 = t250 := (congrFun (zput_J (x := sp) hus426) 4).trans jz417
        have jz430 : zJ s426 sp 5 = t259 := (congrFun (zput_J (x := sp) hus426) 5).trans jz418
        have jz431 : zJ s426 sp 6 = x269 := (congrFun (zput_J (x := sp) hus426) 6).trans jz419
        have fa432 : FA s415 s426 := FA.put hTo (hTo.k t_this (by decide)) (by decide) (by decide) hus426
        have mV433 : VLS κ s426 rv N (updi (updi v pa (v pa + gan u (w k) d E F)) q (v q + gan u (w k) d F E)) := VLS.fa mV421 fa432 (fun i hi => hTo.k (hkv i hi) (by decide))
        have mD434 : DTL κ s426 ra (ma + 1) (updi dt ma d) := DTL.fa mD422 fa432 (fun j hj => hTo.k (hkd j hj) (by decide))
        have Z435 : ∀ j, j < N → (zJ s426 rg j).toInt = updi (updi w pa E) q F j := by rw [show zJ s426 rg = zJ s415 rg from (zput_J hus426)]; exact Z423
        have e436 : zI s426 this 5 = t425 := zput_at hus426
        refine lv_aload hx hb dX1_liftSample_226 (lv_at hl 0 rfl) ?_
        refine va_get (D := κ.1) (ci := 2) (v := .ref (kR κ sp 9)) (C := RX2) (T := TX2) (N := 10) hx hb hg inX2 hown hK (hT.o2 (hT.k tsp (by decide))).one 0 rfl rfl 9 (by decide) (hg _ k252) (fun _ h9 => h9) rfl dX1_liftSample_228 ?_
        rw [erd]
        obtain ⟨h439, oh439, th439⟩ := hT.o1 (hT.k trd (by decide))
        have hTo := hT
        refine tVl (n := 0) (As := []) (rest := []) hx hb hml hown hg hT hK hX (X4_toLong l κ s426 rd  (hT.k trd (by decide)) ) sub_fE_fLv (mwV k500 k436 k437 k88 k438) ⟨rfl, by decide, by decide, by decide +kernel⟩ ⟨(Nat.le_of_ble_eq_true rfl), (Nat.le_of_ble_eq_true rfl)⟩ oh439 rfl rfl hl.1 rfl (Nat.le_of_ble_eq_true rfl) dX1_liftSample_231 zroom.rf (fun x437 s438 H locs hφ hEs438 hT => ?_)
        have e227 : zI s438 sp 0 = i := ((hTo.k tsp (by decide)).eI hEs438 (by decide) rfl).trans e227
        have e234 : zI s438 sp 1 = x203 := ((hTo.k tsp (by decide)).eI hEs438 (by decide) rfl).trans e234
        have e241 : zI s438 sp 2 = x211 := ((hTo.k tsp (by decide)).eI hEs438 (by decide) rfl).trans e241
        have e301 : zI s438 sp 7 = v290 := ((hTo.k tsp (by decide)).eI hEs438 (by decide) rfl).trans e301
        have e314 : zI s438 sp 8 = v302 := ((hTo.k tsp (by decide)).eI hEs438 (by decide) rfl).trans e314
        have e436 : zI s438 this 5 = t425 := ((hTo.k t_this (by decide)).eI hEs438 (by decide) rfl).trans e436
        have Y440 : ∀ j, j < N → (zI s438 rs j).toInt = updi la k ma j := by first | (rw [show zI s438 rs = zI s426 rs from funext fun k => (hTo.k trs (by decide)).eI hEs438 (by decide) rfl]; exact Y427) | rw [show zI s438 rs = zI s426 rs from funext fun k => (hTo.k trs (by decide)).eI hEs438 (by decide) rfl]
        have jz441 : zJ s438 sp 3 = t242 := ((hTo.k tsp (by decide)).eJ hEs438 (by decide) rfl).trans jz428
        have jz442 : zJ s438 sp 4 = t250 := ((hTo.k tsp (by decide)).eJ hEs438 (by decide) rfl).trans jz429
        have jz443 : zJ s438 sp 5 = t259 := ((hTo.k tsp (by decide)).eJ hEs438 (by decide) rfl).trans jz430
        have jz444 : zJ s438 sp 6 = x269 := ((hTo.k tsp (by decide)).eJ hEs438 (by decide) rfl).trans jz431
        have fa445 : FA s426 s438 := FA.ro hTo hEs438 (fun _ => rfl) (fun _ _ => rfl)
        have mV446 : VLS κ s438 rv N (updi (updi v pa (v pa + gan u (w k) d E F)) q (v q + gan u (w k) d F E)) := VLS.fa mV433 fa445 (fun i hi => hTo.k (hkv i hi) (by decide))
        have mD447 : DTL κ s438 ra (ma + 1) (updi dt ma d) := DTL.fa mD434 fa445 (fun j hj => hTo.k (hkd j hj) (by decide))
        have Z448 : ∀ j, j < N → (zJ s438 rg j).toInt = updi (updi w pa E) q F j := by rw [show zJ s438 rg = zJ s426 rg from funext fun k => (hTo.k trg (by decide)).eJ hEs438 (by decide) rfl]; exact Z435
        have eL : (lft P rl u (v, w, la, dt, ma) k pa q) = (updi (updi v pa (v pa + gan u (w k) d E F)) q (v q + gan u (w k) d F E), updi (updi w pa E) q F, updi la k ma, updi dt ma d, ma + 1) := by rw [eE, eF, eD, es9]; rfl
        subst hQ9
        exact t_l hx hb hr hlocks hT (by rw [eL]; exact ⟨(hSR.ext (by rw [esrc]; exact tsrc) (by rw [esrc, erp]; exact trp) hT.2.2.1 rfl (fun _ => rfl)), by rw [erv]; exact mV446, by rw [erg]; exact Z448, by rw [ers]; exact Y440, by rw [era]; exact mD447, by rw [e436]; show _ = ((ma + 1 : Nat) : Int); omega⟩) dX1_liftSample_234
      · have c6 := gi_nlt c9
        exfalso; omega
