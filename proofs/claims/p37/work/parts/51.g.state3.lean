/-! States with their numbers: the sample that is lifted next -/
set_option maxHeartbeats 4000000 in
set_option maxRecDepth 100000 in
theorem X1v_chosenSample (l : Launch) (κ : Kt) (σ0 : Gh) (this : Nat) {N : Nat} {P v w la dt : Nat → Int} {rl : Int} {ma : Nat} (t_this : zk σ0 this 3) (h0 : SST κ σ0 this N P (v, w, la, dt, ma)) (h1 : PLI N P) (h2 : DW κ this) (h3 : PIV N P rl (v, w, la, dt, ma)) (h4 : ma ≤ 46) (h5 : (zI σ0 this 8).toInt = rl) (h6 : rl = 0 ∨ rl = 1 ∨ rl = 2) : TC l yX1_chosenSample cX1_chosenSample 7 (some .int) 4 99 [.ref this] κ σ0 (tqi κ fX σ0 (fun (r : Int32) (τ : Gh) => ((r.toInt = -1 ∧ CH0 N (zI σ0 (kR κ this 0) 6).toInt (v, w, la, dt, ma)) ∨ (∃ k : Nat, r.toInt = k ∧ CHk N P (zI σ0 (kR κ this 0) 6).toInt (zI σ0 this 7).toInt rl (v, w, la, dt, ma) k)) ∧ (FP σ0 τ (fun a => a = kR κ this 11 ∨ a = kR κ this 12)))) := by
  refine TC.of fX (by decide +kernel) (Nat.le_of_ble_eq_true rfl) ?_
  intro p e s m below meth c ls hcs hK hX hT hl
  obtain ⟨hx, hb, hr, hml, hown, hg, hlocks, hin⟩ := hcs
  have hown : s.vm.findClass RX1 = some m.cls := hown
  have hl : lv_has ls 7 [(0, .ref this)] := hl
  have hT0 := hT
  have nm1 : ((-1) : Int32).toInt = (-1) := by decide
  have n0 : (0 : Int32).toInt = 0 := by decide
  generalize hQ9 : tQ _ _ _ _ _ _ = Q9
  obtain ⟨src, esrc⟩ : ∃ z, kR κ this 0 = z := ⟨_, rfl⟩
  have tsrc : zk σ0 src 4 := by rw [← esrc]; exact hT0.ref t_this (by decide) (by decide) (by decide)
  have bsrc := (hT0.P tsrc (by decide)).1
  have bsrcl := bsrc.1
  have bsrch := bsrc.2
  obtain ⟨rp, erp⟩ : ∃ z, kR κ src 0 = z := ⟨_, rfl⟩
  have trp : zk σ0 rp 8 := by rw [← erp]; exact hT0.ref tsrc (by decide) (by decide) (by decide)
  obtain ⟨rv, erv⟩ : ∃ z, kR κ this 1 = z := ⟨_, rfl⟩
  have trv : zk σ0 rv 10 := by rw [← erv]; exact hT0.ref t_this (by decide) (by decide) (by decide)
  obtain ⟨rq, erq⟩ : ∃ z, kR κ this 11 = z := ⟨_, rfl⟩
  have trq : zk σ0 rq 1 := by rw [← erq]; exact hT0.ref t_this (by decide) (by decide) (by decide)
  obtain ⟨rr, err⟩ : ∃ z, kR κ this 12 = z := ⟨_, rfl⟩
  have trr : zk σ0 rr 1 := by rw [← err]; exact hT0.ref t_this (by decide) (by decide) (by decide)
  have hSR : SRC κ σ0 this N P := h0.1
  have hN := hSR.1
  have hPS := hSR.2
  rw [esrc] at hN hPS
  rw [erp] at hPS
  have hP48 : N ≤ 48 := by omega
  have hVL : VLS κ σ0 (kR κ this 1) N v := h0.2.1
  rw [erv] at hVL
  have hLm : ∀ j, j < N → (zI σ0 (kR κ this 3) j).toInt = la j := h0.2.2.2.1
  have hM5 : (zI σ0 this 5).toInt = ma := h0.2.2.2.2.2
  have hkv : ∀ i, i < N → zk σ0 (kR κ rv i) 1 := fun i hi => hT0.kv trv (by omega)
  have hvp : ∀ i, i < N → kR κ rv i ≠ rq := fun i hi => by rw [← erv, ← erq]; exact h2.vp (by omega)
  have hvr : ∀ i, i < N → kR κ rv i ≠ rr := fun i hi => by rw [← erv, ← err]; exact h2.vr (by omega)
  have hpr : rq ≠ rr := by rw [← erq, ← err]; exact h2.pr
  obtain ⟨E9, hM⟩ : ∃ E : Nat → Prop, ∀ a, E a ↔ (a = rq ∨ a = rr) := ⟨fun a => a = rq ∨ a = rr, fun _ => Iff.rfl⟩
  have hnE : ∀ i, i < N → ¬ E9 (kR κ rv i) := fun i hi q9 => ((hM _).mp q9).elim (hvp i hi) (hvr i hi)
  have hl0 : la 0 = -1 := h3.1.1
  have hlN : la (N - 1) = -1 := h3.1.2
  have hsm : ∀ j, j < N → la j = -1 → -1114000000 ≤ v j ∧ v j ≤ 1114000000 := fun j hj hl9 => h3.small (by omega) hj hl9
  refine lv_aload_n hx hb dX1_chosenSample_0 rfl (lv_at hl 0 rfl) ?_
  have hTo := hT
  refine tVi (n := 0) (As := []) (rest := []) hx hb hml hown hg hT hK hX (X1v_presentCount l κ σ0 this  (hT.k t_this (by decide)) ) sub_fE_fX (mwV k534 k489 k490 k87 k491) ⟨rfl, by decide, by decide, by decide +kernel⟩ ⟨(Nat.le_of_ble_eq_true rfl), (Nat.le_of_ble_eq_true rfl)⟩ (hT.o3 (hT.k t_this (by decide))) rfl rfl hl.1 rfl (Nat.le_of_ble_eq_true rfl) dX1_chosenSample_1 zroom.rf (fun x201 s202 H locs hφ hEs202 hT => ?_)
  have fa203 : FA σ0 s202 := FA.ro hTo hEs202 (fun _ => rfl) (fun _ _ => rfl)
  have fp204 : FP σ0 s202 E9 := FP.callA hTo (FP.rf (E := E9)) fa203
  have f205 := hφ
  rw [esrc] at f205
  refine lv_aload_n hx hb dX1_chosenSample_4 rfl (lv_at hl 0 rfl) ?_
  refine va_get (D := κ.1) (ci := 1) (v := .ref (kR κ this 0)) (C := RX1) (T := TX1) (N := 13) hx hb hg inX1 hown hK (hT.o3 (hT.k t_this (by decide))).one 0 rfl rfl 0 (by decide) (hg _ k278) (fun _ h9 => h9) rfl dX1_chosenSample_5 ?_
  rw [esrc]
  obtain ⟨v206, ev206⟩ : ∃ zz9 : Int32, zI σ0 src 6 = zz9 := ⟨_, rfl⟩
  have qv206 : v206.toInt = (zI σ0 src 6).toInt := by rw [ev206]
  refine va_get (D := κ.1) (ci := 0) (v := .int (zI s202 src 6)) (C := RX0) (T := TX0) (N := 7) hx hb hg inX0 hown hK (hT.o4 (hT.k tsrc (by decide))).one 0 rfl rfl 6 (by decide) (hg _ k177) (fun _ h9 => h9) rfl dX1_chosenSample_8 ?_
  rw [(hT.eI tsrc (by decide) rfl ev206)]
  refine lv_icmp_gt (tgt := 16) hx hb dX1_chosenSample_11 (by decide) (fun c9 => ?_) (fun c9 => ?_)
  · have c1 := gi_lt c9
    refine lv_aload_n hx hb dX1_chosenSample_16 rfl (lv_at hl 0 rfl) ?_
    refine va_get (D := κ.1) (ci := 1) (v := .ref (kR κ this 11)) (C := RX1) (T := TX1) (N := 13) hx hb hg inX1 hown hK (hT.o3 (hT.k t_this (by decide))).one 0 rfl rfl 11 (by decide) (hg _ k298) (fun _ h9 => h9) rfl dX1_chosenSample_17 ?_
    rw [erq]
    refine lv_astore_n (lv' := [(1, .ref rq), (0, .ref this)]) hx hb dX1_chosenSample_20 rfl hl (by decide) rfl (fun ls hl => ?_)
    refine lv_aload_n hx hb dX1_chosenSample_21 rfl (lv_at hl 1 rfl) ?_
    refine va_get (D := κ.1) (ci := 1) (v := .ref (kR κ this 12)) (C := RX1) (T := TX1) (N := 13) hx hb hg inX1 hown hK (hT.o3 (hT.k t_this (by decide))).one 0 rfl rfl 12 (by decide) (hg _ k299) (fun _ h9 => h9) rfl dX1_chosenSample_22 ?_
    rw [err]
    refine lv_astore_n (lv' := [(2, .ref rr), (1, .ref rq), (0, .ref this)]) hx hb dX1_chosenSample_25 rfl hl (by decide) rfl (fun ls hl => ?_)
    refine lv_iconst (v := (-1)) hx hb dX1_chosenSample_26 (by decide) ?_
    refine lv_istore_n (lv' := [(3, .int (-1)), (2, .ref rr), (1, .ref rq), (0, .ref this)]) hx hb dX1_chosenSample_27 rfl hl (by decide) rfl (fun ls hl => ?_)
    refine lv_iconst (v := (-1)) hx hb dX1_chosenSample_28 (by decide) ?_
    refine lv_istore (lv' := [(4, .int (-1)), (3, .int (-1)), (2, .ref rr), (1, .ref rq), (0, .ref this)]) hx hb dX1_chosenSample_29 hl (by decide) rfl (fun ls hl => ?_)
    refine lv_iconst (v := (-1)) hx hb dX1_chosenSample_31 (by decide) ?_
    refine lv_istore (lv' := [(5, .int (-1)), (4, .int (-1)), (3, .int (-1)), (2, .ref rr), (1, .ref rq), (0, .ref this)]) hx hb dX1_chosenSample_32 hl (by decide) rfl (fun ls hl => ?_)
    refine lv_iconst (v := 0) hx hb dX1_chosenSample_34 (by decide) ?_
    refine lv_istore (lv' := [(6, .int 0), (5, .int (-1)), (4, .int (-1)), (3, .int (-1)), (2, .ref rr), (1, .ref rq), (0, .ref this)]) hx hb dX1_chosenSample_35 hl (by decide) rfl (fun ls hl => ?_)
    have loop37 : ∀ (n9 : Nat) (bs : Int32) (lf : Int32) (md : Int32) (i : Int32) (H : Heap) (locs : List Loc) (sg : Gh) (ls : Array Slot), TS κ fX σ0 sg s H locs → (0 ≤ i.toInt) → (i.toInt ≤ (zI σ0 src 2).toInt) → (CLM la i.toInt.toNat lf.toInt md.toInt) → (CBS N P (zI σ0 this 7).toInt rl (v, w, la, dt, ma) md.toInt bs.toInt (WV sg rr)) → (FP σ0 sg E9) → lv_has ls 7 [(3, .int bs), (4, .int lf), (5, .int md), (6, .int i), (2, .ref rr), (1, .ref rq), (0, .ref this)] → ((zI σ0 src 2).toInt - i.toInt) < n9 → tW p l e 4 99 κ s m #[.ref this] below meth c H locs Q9 (F0 m 37 ls []) := by
      intro n9
      induction n9 with
      | zero =>
        intro bs lf md i H locs sg ls hT q1 q2 q3 q4 q5 hl hm9
        exfalso
        omega
      | succ n9 ih9 =>
        have ih37 := ih9
        clear ih9
        intro bs lf md i H locs s207 ls hT q1 q2 q3 q4 q5 hl hm9
        refine lv_iload hx hb dX1_chosenSample_37 (lv_at hl 3 rfl) ?_
        refine lv_aload_n hx hb dX1_chosenSample_39 rfl (lv_at hl 6 rfl) ?_
        refine va_get (D := κ.1) (ci := 1) (v := .ref (kR κ this 0)) (C := RX1) (T := TX1) (N := 13) hx hb hg inX1 hown hK (hT.o3 (hT.k t_this (by decide))).one 0 rfl rfl 0 (by decide) (hg _ k278) (fun _ h9 => h9) rfl dX1_chosenSample_40 ?_
        rw [esrc]
        obtain ⟨v208, ev208⟩ : ∃ zz9 : Int32, zI σ0 src 2 = zz9 := ⟨_, rfl⟩
        have qv208 : v208.toInt = (zI σ0 src 2).toInt := by rw [ev208]
        have b209 := (hT.P (hT.k tsrc (by decide)) (by decide)).1
        rw [(hT.eI tsrc (by decide) rfl ev208)] at b209
        have b209l := b209.1
        have b209h := b209.2
        refine va_get (D := κ.1) (ci := 0) (v := .int (zI s207 src 2)) (C := RX0) (T := TX0) (N := 7) hx hb hg inX0 hown hK (hT.o4 (hT.k tsrc (by decide))).one 0 rfl rfl 2 (by decide) (hg _ k162) (fun _ h9 => h9) rfl dX1_chosenSample_43 ?_
        rw [(hT.eI tsrc (by decide) rfl ev208)]
        refine lv_icmp_ge (tgt := 113) hx hb dX1_chosenSample_46 (by decide) (fun c9 => ?_) (fun c9 => ?_)
        · have c2 := gi_le c9
          refine lv_iload_n hx hb dX1_chosenSample_113 rfl (lv_at hl 0 rfl) ?_
          have q3N : CLM la N lf.toInt md.toInt := by have z9 := q3; rw [show i.toInt.toNat = N from by omega] at z9; exact z9
          subst hQ9
          exact t_i hx hb hr hlocks hT ⟨by rw [esrc]; exact q4.fin q3N (by omega) hlN _ (by show _ < (N : Int) - ma; omega), (by rw [erq, err]; exact q5.to (fun a q9 => (hM a).mp q9))⟩ dX1_chosenSample_114
        · have c3 := gi_nle c9
          have i_i : (ix i : Int) = i.toInt := by unfold ix; omega
          refine lv_aload_n hx hb dX1_chosenSample_49 rfl (lv_at hl 6 rfl) ?_
          refine lv_iload hx hb dX1_chosenSample_50 (lv_at hl 3 rfl) ?_
          have hTo := hT
          refine tVi (n := 1) (As := [.int i]) (rest := []) hx hb hml hown hg hT hK hX (X1v_isPresent l κ s207 this i  (hT.k t_this (by decide)) (by omega) (by omega)) sub_fE_fX (mwV k459 k460 k461 k87 k462) ⟨rfl, by decide, by decide, by decide +kernel⟩ ⟨(Nat.le_of_ble_eq_true rfl), (Nat.le_of_ble_eq_true rfl)⟩ (hT.o3 (hT.k t_this (by decide))) rfl rfl hl.1 rfl (Nat.le_of_ble_eq_true rfl) dX1_chosenSample_52 zroom.rf (fun x210 s211 H locs hφ hEs211 hT => ?_)
          have fa212 : FA s207 s211 := FA.ro hTo hEs211 (fun _ => rfl) (fun _ _ => rfl)
          have fp213 : FP σ0 s211 E9 := FP.callA hTo q5 fa212
          obtain ⟨f214, f215⟩ := hφ
          rw [show zI s207 (kR κ this 3) = zI σ0 (kR κ this 3) from funext fun k => (show zk σ0 (kR κ this 3) 15 from hT0.ref t_this (by decide) (by decide) (by decide)).eI hTo.2.2.1 (by decide) rfl, hLm (ix i) (by omega)] at f214
          have cb216 := q4.mono (fun c hc => fa212 rr (hTo.k trr (by decide)) c hc)
          refine lv_if_ne (tgt := 61) hx hb dX1_chosenSample_55 (by decide) (fun c9 => ?_) (fun c9 => ?_)
          · have c4 := gi_ne c9
            refine lv_iload hx hb dX1_chosenSample_61 (lv_at hl 1 rfl) ?_
            refine lv_iconst (v := (-1)) hx hb dX1_chosenSample_63 (by decide) ?_
            refine lv_icmp_eq (tgt := 99) hx hb dX1_chosenSample_64 (by decide) (fun c9 => ?_) (fun c9 => ?_)
            · have c5 := gi_eq c9
              have cb217 : CBS N P (zI σ0 this 7).toInt rl (v, w, la, dt, ma) (ix i) bs.toInt (WV s211 rr) := cb216.first q3 (by omega)
              refine lv_iload hx hb dX1_chosenSample_99 (lv_at hl 2 rfl) ?_
              refine lv_istore (lv' := [(4, .int md), (3, .int bs), (5, .int md), (6, .int i), (2, .ref rr), (1, .ref rq), (0, .ref this)]) hx hb dX1_chosenSample_101 hl (by decide) rfl (fun ls hl => ?_)
              refine lv_iload hx hb dX1_chosenSample_103 (lv_at hl 3 rfl) ?_
              refine lv_istore (lv' := [(5, .int i), (4, .int md), (3, .int bs), (6, .int i), (2, .ref rr), (1, .ref rq), (0, .ref this)]) hx hb dX1_chosenSample_105 hl (by decide) rfl (fun ls hl => ?_)
              obtain ⟨t218, qt218⟩ : ∃ zz9 : Int32, i + Int32.ofInt 1 = zz9 := ⟨_, rfl⟩
              refine lv_iinc (v := t218) (lv' := [(6, .int t218), (5, .int i), (4, .int md), (3, .int bs), (2, .ref rr), (1, .ref rq), (0, .ref this)]) hx hb dX1_chosenSample_107 hl (k := 3) rfl qt218 (by decide) rfl (fun ls hl => ?_)
              have ht218 : t218.toInt = i.toInt + 1 := by rw [← qt218]; exact v_addi rfl (show (Int32.ofInt 1).toInt = 1 from by decide) (by omega) (by omega)
              refine lv_goto (tgt := 37) hx hb dX1_chosenSample_110 (by decide) ?_
              exact ih37 bs md i t218 _ _ _ _ hT  (by omega) (by omega) (by rw [show t218.toInt.toNat = ix i + 1 from by omega, show i.toInt = ((ix i : Nat) : Int) from by omega]; exact q3.next (show la (ix i) = -1 by omega)) (by rw [show i.toInt = ((ix i : Nat) : Int) from by omega]; exact cb217) fp213 (lv_sub hl [3, 2, 1, 0, 4, 5, 6] rfl) (by omega)
            · have c6 := gi_ne c9
              refine lv_aload_n hx hb dX1_chosenSample_67 rfl (lv_at hl 6 rfl) ?_
              refine lv_aload_n hx hb dX1_chosenSample_68 rfl (lv_at hl 5 rfl) ?_
              refine lv_iload hx hb dX1_chosenSample_69 (lv_at hl 1 rfl) ?_
              refine lv_iload hx hb dX1_chosenSample_71 (lv_at hl 2 rfl) ?_
              refine lv_iload hx hb dX1_chosenSample_73 (lv_at hl 3 rfl) ?_
              obtain ⟨aa9, bb9, eaa9, ebb9, hb0, hLN, hlb, hRN⟩ := q3.row (N := N) (show la (ix i) = -1 by omega) (by omega) (by omega)
              have hLN1 := hLN.1
              have hRN1 := hRN.1.1
              have hTo := hT
              refine tVv (n := 4) (As := [.ref rq, .int lf, .int md, .int i]) (rest := []) hx hb hml hown hg hT hK hX (X1v_costInto (N := N) (P := P) (X := (v, w, la, dt, ma)) (rl := rl) (k := bb9) (pa := aa9) (q := ix i) l κ s211 this rq lf md i  (hT.k t_this (by decide)) (hT.k trq (by decide)) (hSR.ext (by rw [esrc]; exact tsrc) (by rw [esrc, erp]; exact trp) hT.2.2.1 rfl (fun _ => rfl)) h1 (by rw [erv]; exact hVL.fp fp213 hkv hnE) (fun i hi => by rw [erv]; exact hvp i hi) (by omega) (show i.toInt = ((ix i : Nat) : Int) from by omega) (by omega) ⟨hLN1, hRN1, by omega⟩ (by rw [show zI s211 this 8 = zI σ0 this 8 from t_this.eI hT.2.2.1 (by decide) rfl]; exact h5) h6 (hsm aa9 (by omega) hLN.2.1) (hsm (ix i) (by omega) hRN.2.1) (hsm bb9 (by omega) hlb)) (fun _ _ h => h) (mwV k535 k537 k9 k87 k538) ⟨rfl, by decide, by decide, by decide +kernel⟩ ⟨(Nat.le_of_ble_eq_true rfl), (Nat.le_of_ble_eq_true rfl)⟩ (hT.o3 (hT.k t_this (by decide))) rfl rfl hl.1 rfl (Nat.le_of_ble_eq_true rfl) dX1_chosenSample_75 zroom.rf (fun s220 H locs hφ hEs220 hT => ?_)
              obtain ⟨f221, f222⟩ := hφ
              have fp223 : FP σ0 s220 E9 := FP.call hTo fp213 f222 ((hM _).mpr (Or.inl rfl))
              obtain ⟨cc9, hcc9, ecc9⟩ := f221
              rw [show zI s211 this 7 = zI σ0 this 7 from t_this.eI hTo.2.2.1 (by decide) rfl] at ecc9
              have cb224 := cb216.mono (fun c hc => f222 rr (Ne.symm hpr) (hTo.k trr (by decide)) c hc)
              have hco : CO N P (zI σ0 this 7).toInt rl (v, w, la, dt, ma) bb9 (ab cc9) := ⟨aa9, ix i, hLN, hRN, ecc9⟩
              refine lv_iload_n hx hb dX1_chosenSample_78 rfl (lv_at hl 0 rfl) ?_
              refine lv_iconst (v := (-1)) hx hb dX1_chosenSample_79 (by decide) ?_
              refine lv_icmp_eq (tgt := 91) hx hb dX1_chosenSample_80 (by decide) (fun c9 => ?_) (fun c9 => ?_)
              · have c7 := gi_eq c9
                refine lv_iload hx hb dX1_chosenSample_91 (lv_at hl 2 rfl) ?_
                refine lv_istore_n (lv' := [(3, .int md), (4, .int lf), (5, .int md), (6, .int i), (2, .ref rr), (1, .ref rq), (0, .ref this)]) hx hb dX1_chosenSample_93 rfl hl (by decide) rfl (fun ls hl => ?_)
                refine lv_aload_n hx hb dX1_chosenSample_94 rfl (lv_at hl 4 rfl) ?_
                refine lv_aload_n hx hb dX1_chosenSample_95 rfl (lv_at hl 5 rfl) ?_
                obtain ⟨h227, oh227, th227⟩ := hT.o1 (hT.k trr (by decide))
                have hTo := hT
                refine tVv (n := 1) (As := [.ref rq]) (rest := []) hx hb hml hown hg hT hK hX (X4v_copyFrom l κ s220 rr rq  (hT.k trr (by decide)) (hT.k trq (by decide)) hcc9) (fun _ _ h => h) (mwV k455 k456 k457 k88 k458) ⟨rfl, by decide, by decide, by decide +kernel⟩ ⟨(Nat.le_of_ble_eq_true rfl), (Nat.le_of_ble_eq_true rfl)⟩ oh227 rfl rfl hl.1 rfl (Nat.le_of_ble_eq_true rfl) dX1_chosenSample_96 zroom.rf (fun s226 H locs hφ hEs226 hT => ?_)
                obtain ⟨f228, f229⟩ := hφ
                have fp230 : FP σ0 s226 E9 := FP.call hTo fp223 f229 ((hM _).mpr (Or.inr rfl))
                have wn231 := f229 rq hpr (hTo.k trq (by decide)) _ hcc9
                have cb232 : CBS N P (zI σ0 this 7).toInt rl (v, w, la, dt, ma) (ix i) md.toInt (WV s226 rr) := by rw [ebb9]; exact cb224.new q3 (by omega) ebb9 hb0 hlb (by omega) hco f228
                refine lv_iload hx hb dX1_chosenSample_99 (lv_at hl 2 rfl) ?_
                refine lv_istore (lv' := [(4, .int md), (3, .int md), (5, .int md), (6, .int i), (2, .ref rr), (1, .ref rq), (0, .ref this)]) hx hb dX1_chosenSample_101 hl (by decide) rfl (fun ls hl => ?_)
                refine lv_iload hx hb dX1_chosenSample_103 (lv_at hl 3 rfl) ?_
                refine lv_istore (lv' := [(5, .int i), (4, .int md), (3, .int md), (6, .int i), (2, .ref rr), (1, .ref rq), (0, .ref this)]) hx hb dX1_chosenSample_105 hl (by decide) rfl (fun ls hl => ?_)
                obtain ⟨t233, qt233⟩ : ∃ zz9 : Int32, i + Int32.ofInt 1 = zz9 := ⟨_, rfl⟩
                refine lv_iinc (v := t233) (lv' := [(6, .int t233), (5, .int i), (4, .int md), (3, .int md), (2, .ref rr), (1, .ref rq), (0, .ref this)]) hx hb dX1_chosenSample_107 hl (k := 3) rfl qt233 (by decide) rfl (fun ls hl => ?_)
                have ht233 : t233.toInt = i.toInt + 1 := by rw [← qt233]; exact v_addi rfl (show (Int32.ofInt 1).toInt = 1 from by decide) (by omega) (by omega)
                refine lv_goto (tgt := 37) hx hb dX1_chosenSample_110 (by decide) ?_
                exact ih37 md md i t233 _ _ _ _ hT  (by omega) (by omega) (by rw [show t233.toInt.toNat = ix i + 1 from by omega, show i.toInt = ((ix i : Nat) : Int) from by omega]; exact q3.next (show la (ix i) = -1 by omega)) (by rw [show i.toInt = ((ix i : Nat) : Int) from by omega]; exact cb232) fp230 (lv_sub hl [3, 2, 1, 0, 4, 5, 6] rfl) (by omega)
              · have c8 := gi_ne c9
                refine lv_aload_n hx hb dX1_chosenSample_83 rfl (lv_at hl 5 rfl) ?_
                refine lv_aload_n hx hb dX1_chosenSample_84 rfl (lv_at hl 4 rfl) ?_
                obtain ⟨dd9, hdd9⟩ := cb224.val (by omega)
                obtain ⟨h236, oh236, th236⟩ := hT.o1 (hT.k trq (by decide))
                have hTo := hT
                refine tVi (n := 1) (As := [.ref rr]) (rest := []) hx hb hml hown hg hT hK hX (X4v_compareAmount l κ s220 rq rr  (hT.k trq (by decide)) (hT.k trr (by decide)) hcc9 hdd9) sub_fE_fX (mwV k566 k567 k568 k88 k569) ⟨rfl, by decide, by decide, by decide +kernel⟩ ⟨(Nat.le_of_ble_eq_true rfl), (Nat.le_of_ble_eq_true rfl)⟩ oh236 rfl rfl hl.1 rfl (Nat.le_of_ble_eq_true rfl) dX1_chosenSample_85 zroom.rf (fun x234 s235 H locs hφ hEs235 hT => ?_)
                have fa237 : FA s220 s235 := FA.ro hTo hEs235 (fun _ => rfl) (fun _ _ => rfl)
                have fp238 : FP σ0 s235 E9 := FP.callA hTo fp223 fa237
                have wn239 := fa237 rq (hTo.k trq (by decide)) _ hcc9
                have wn240 := fa237 rr (hTo.k trr (by decide)) _ hdd9
                have f241 := hφ
                have cb242 := cb224.mono (fun c hc => fa237 rr (hTo.k trr (by decide)) c hc)
                have one9 : ∀ c, WV s235 rr c → c = dd9 := fun c hc => hc.one wn240
                refine lv_if_ge (tgt := 99) hx hb dX1_chosenSample_88 (by decide) (fun c9 => ?_) (fun c9 => ?_)
                · have c9 := gi_le c9
                  have cb243 : CBS N P (zI σ0 this 7).toInt rl (v, w, la, dt, ma) (ix i) bs.toInt (WV s235 rr) := cb242.keep q3 ebb9 hb0 hlb (by omega) hco (by omega) one9 (by omega)
                  refine lv_iload hx hb dX1_chosenSample_99 (lv_at hl 2 rfl) ?_
                  refine lv_istore (lv' := [(4, .int md), (3, .int bs), (5, .int md), (6, .int i), (2, .ref rr), (1, .ref rq), (0, .ref this)]) hx hb dX1_chosenSample_101 hl (by decide) rfl (fun ls hl => ?_)
                  refine lv_iload hx hb dX1_chosenSample_103 (lv_at hl 3 rfl) ?_
                  refine lv_istore (lv' := [(5, .int i), (4, .int md), (3, .int bs), (6, .int i), (2, .ref rr), (1, .ref rq), (0, .ref this)]) hx hb dX1_chosenSample_105 hl (by decide) rfl (fun ls hl => ?_)
                  obtain ⟨t244, qt244⟩ : ∃ zz9 : Int32, i + Int32.ofInt 1 = zz9 := ⟨_, rfl⟩
                  refine lv_iinc (v := t244) (lv' := [(6, .int t244), (5, .int i), (4, .int md), (3, .int bs), (2, .ref rr), (1, .ref rq), (0, .ref this)]) hx hb dX1_chosenSample_107 hl (k := 3) rfl qt244 (by decide) rfl (fun ls hl => ?_)
                  have ht244 : t244.toInt = i.toInt + 1 := by rw [← qt244]; exact v_addi rfl (show (Int32.ofInt 1).toInt = 1 from by decide) (by omega) (by omega)
                  refine lv_goto (tgt := 37) hx hb dX1_chosenSample_110 (by decide) ?_
                  exact ih37 bs md i t244 _ _ _ _ hT  (by omega) (by omega) (by rw [show t244.toInt.toNat = ix i + 1 from by omega, show i.toInt = ((ix i : Nat) : Int) from by omega]; exact q3.next (show la (ix i) = -1 by omega)) (by rw [show i.toInt = ((ix i : Nat) : Int) from by omega]; exact cb243) fp238 (lv_sub hl [3, 2, 1, 0, 4, 5, 6] rfl) (by omega)
                · have c10 := gi_nle c9
                  refine lv_iload hx hb dX1_chosenSample_91 (lv_at hl 2 rfl) ?_
                  refine lv_istore_n (lv' := [(3, .int md), (4, .int lf), (5, .int md), (6, .int i), (2, .ref rr), (1, .ref rq), (0, .ref this)]) hx hb dX1_chosenSample_93 rfl hl (by decide) rfl (fun ls hl => ?_)
                  refine lv_aload_n hx hb dX1_chosenSample_94 rfl (lv_at hl 4 rfl) ?_
                  refine lv_aload_n hx hb dX1_chosenSample_95 rfl (lv_at hl 5 rfl) ?_
                  obtain ⟨h247, oh247, th247⟩ := hT.o1 (hT.k trr (by decide))
                  have hTo := hT
                  refine tVv (n := 1) (As := [.ref rq]) (rest := []) hx hb hml hown hg hT hK hX (X4v_copyFrom l κ s235 rr rq  (hT.k trr (by decide)) (hT.k trq (by decide)) wn239) (fun _ _ h => h) (mwV k455 k456 k457 k88 k458) ⟨rfl, by decide, by decide, by decide +kernel⟩ ⟨(Nat.le_of_ble_eq_true rfl), (Nat.le_of_ble_eq_true rfl)⟩ oh247 rfl rfl hl.1 rfl (Nat.le_of_ble_eq_true rfl) dX1_chosenSample_96 zroom.rf (fun s246 H locs hφ hEs246 hT => ?_)
                  obtain ⟨f248, f249⟩ := hφ
                  have fp250 : FP σ0 s246 E9 := FP.call hTo fp238 f249 ((hM _).mpr (Or.inr rfl))
                  have wn251 := f249 rq hpr (hTo.k trq (by decide)) _ wn239
                  have cb252 : CBS N P (zI σ0 this 7).toInt rl (v, w, la, dt, ma) (ix i) md.toInt (WV s246 rr) := by rw [ebb9]; exact cb242.better q3 ebb9 hb0 hlb (by omega) hco f248 one9 (by omega)
                  refine lv_iload hx hb dX1_chosenSample_99 (lv_at hl 2 rfl) ?_
                  refine lv_istore (lv' := [(4, .int md), (3, .int md), (5, .int md), (6, .int i), (2, .ref rr), (1, .ref rq), (0, .ref this)]) hx hb dX1_chosenSample_101 hl (by decide) rfl (fun ls hl => ?_)
                  refine lv_iload hx hb dX1_chosenSample_103 (lv_at hl 3 rfl) ?_
                  refine lv_istore (lv' := [(5, .int i), (4, .int md), (3, .int md), (6, .int i), (2, .ref rr), (1, .ref rq), (0, .ref this)]) hx hb dX1_chosenSample_105 hl (by decide) rfl (fun ls hl => ?_)
                  obtain ⟨t253, qt253⟩ : ∃ zz9 : Int32, i + Int32.ofInt 1 = zz9 := ⟨_, rfl⟩
                  refine lv_iinc (v := t253) (lv' := [(6, .int t253), (5, .int i), (4, .int md), (3, .int md), (2, .ref rr), (1, .ref rq), (0, .ref this)]) hx hb dX1_chosenSample_107 hl (k := 3) rfl qt253 (by decide) rfl (fun ls hl => ?_)
                  have ht253 : t253.toInt = i.toInt + 1 := by rw [← qt253]; exact v_addi rfl (show (Int32.ofInt 1).toInt = 1 from by decide) (by omega) (by omega)
                  refine lv_goto (tgt := 37) hx hb dX1_chosenSample_110 (by decide) ?_
                  exact ih37 md md i t253 _ _ _ _ hT  (by omega) (by omega) (by rw [show t253.toInt.toNat = ix i + 1 from by omega, show i.toInt = ((ix i : Nat) : Int) from by omega]; exact q3.next (show la (ix i) = -1 by omega)) (by rw [show i.toInt = ((ix i : Nat) : Int) from by omega]; exact cb252) fp250 (lv_sub hl [3, 2, 1, 0, 4, 5, 6] rfl) (by omega)
          · have c11 := gi_eq c9
            refine lv_goto (tgt := 107) hx hb dX1_chosenSample_58 (by decide) ?_
            obtain ⟨t254, qt254⟩ : ∃ zz9 : Int32, i + Int32.ofInt 1 = zz9 := ⟨_, rfl⟩
            refine lv_iinc (v := t254) (lv' := [(6, .int t254), (3, .int bs), (4, .int lf), (5, .int md), (2, .ref rr), (1, .ref rq), (0, .ref this)]) hx hb dX1_chosenSample_107 hl (k := 3) rfl qt254 (by decide) rfl (fun ls hl => ?_)
            have ht254 : t254.toInt = i.toInt + 1 := by rw [← qt254]; exact v_addi rfl (show (Int32.ofInt 1).toInt = 1 from by decide) (by omega) (by omega)
            refine lv_goto (tgt := 37) hx hb dX1_chosenSample_110 (by decide) ?_
            exact ih37 bs lf md t254 _ _ _ _ hT  (by omega) (by omega) (by rw [show t254.toInt.toNat = ix i + 1 from by omega]; exact q3.skip hl0 (show la (ix i) ≠ -1 by omega)) cb216 fp213 (lv_sub hl [1, 2, 3, 0, 4, 5, 6] rfl) (by omega)
    exact loop37 (((zI σ0 src 2).toInt - (0 : Int32).toInt).toNat + 1) (-1) (-1) (-1) 0 _ _ _ _ hT  (by omega) (by omega) (Or.inl ⟨by rw [n0]; rfl, nm1, nm1⟩) (Or.inl ⟨nm1, fun j j1 j2 => by omega⟩) fp204 (lv_sub hl [3, 2, 1, 0, 4, 5, 6] rfl) (by omega)
  · have c12 := gi_nlt c9
    refine lv_iconst (v := (-1)) hx hb dX1_chosenSample_14 (by decide) ?_
    subst hQ9
    exact t_i hx hb hr hlocks hT ⟨Or.inl ⟨nm1, Or.inl (by rw [esrc]; show (N : Int) - ma ≤ _; omega)⟩, (by rw [erq, err]; exact fp204.to (fun a q9 => (hM a).mp q9))⟩ dX1_chosenSample_15
