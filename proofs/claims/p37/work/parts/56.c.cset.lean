/-! What LiftingSignal reads: settings -/
theorem sub_fW23_fPs : ∀ t k, fPs t k = false → fW23 t k = false := by
  intro t k h
  simp [fW23, fPs] at h ⊢ <;> omega
set_option maxHeartbeats 4000000 in
set_option maxRecDepth 100000 in
theorem X3s_readLeast (l : Launch) (κ : Kt) (σ0 : Gh) (this : Nat) (into : Nat) {tc : Nat → Int} {Ln : Nat} {sp : Nat} {gg : Nat → Int} (t_this : zk σ0 this 6) (t_into : zk σ0 into 5) (h0 : TXc κ σ0 this tc Ln) (h1 : TKc σ0 this tc Ln sp) (h2 : GSc σ0 into gg) : TC l yX3_readLeast cX3_readLeast 2 (some .boolean) 3 60 [.ref this, .ref into] κ σ0 (tqi κ fPs σ0 (fun (r : Int32) (τ : Gh) => ((r.toInt = 1 ∧ (∃ v : Int, uvIs (utkK tc Ln) (uvl tc Ln) (uWd tc Ln) 3 sp v ∧ GSc τ into (fun j => if j = 3 then v else gg j)) ∧ TKc τ this tc Ln (unxt tc Ln sp) ∧ zI τ this 2 = zI σ0 this 2 ∧ zI τ this 3 = zI σ0 this 3) ∨ (r.toInt = 0 ∧ (∀ v, ¬ uvIs (utkK tc Ln) (uvl tc Ln) (uWd tc Ln) 3 sp v) ∧ (∃ co : Int, uvBad (utkK tc Ln) 3 sp co ∧ (zI τ this 2).toInt = co) ∧ (zI τ this 3).toInt = sp)) ∧ (isB r))) := by
  refine TC.of fPs (by decide +kernel) (Nat.le_of_ble_eq_true rfl) ?_
  intro p e s m below meth c ls hcs hK hX hT hl
  obtain ⟨hx, hb, hr, hml, hown, hg, hlocks, hin⟩ := hcs
  have hown : s.vm.findClass RX3 = some m.cls := hown
  have hl : lv_has ls 2 [(0, .ref this), (1, .ref into)] := hl
  have hT0 := hT
  have n1 : (1 : Int32).toInt = 1 := by decide
  have n2 : (2 : Int32).toInt = 2 := by decide
  have n48 : (48 : Int32).toInt = 48 := by decide
  generalize hQ9 : tQ _ _ _ _ _ _ = Q9
  obtain ⟨rB, erB⟩ : ∃ z, kR κ this 0 = z := ⟨_, rfl⟩
  have trB : zk σ0 rB 14 := by rw [← erB]; exact hT0.ref t_this (by decide) (by decide) (by decide)
  have hpc : ∀ j, tc j = (zI σ0 rB j).toInt := by rw [← erB]; exact h0.1
  have hLn : (zI σ0 this 1).toInt = Ln := h0.2
  have bL := (hT0.P t_this (by decide)).1.2
  have hL7 : (Ln : Int) ≤ 700 := by omega
  obtain ⟨v1, ev1⟩ : ∃ zz9 : Int32, zI σ0 this 2 = zz9 := ⟨_, rfl⟩
  have qv1 : v1.toInt = (zI σ0 this 2).toInt := by rw [ev1]
  have zthis2 : zI σ0 this 2 = v1 := ev1
  obtain ⟨v2, ev2⟩ : ∃ zz9 : Int32, zI σ0 this 3 = zz9 := ⟨_, rfl⟩
  have qv2 : v2.toInt = (zI σ0 this 3).toInt := by rw [ev2]
  have zthis3 : zI σ0 this 3 = v2 := ev2
  obtain ⟨v3, ev3⟩ : ∃ zz9 : Int32, zI σ0 into 3 = zz9 := ⟨_, rfl⟩
  have qv3 : v3.toInt = (zI σ0 into 3).toInt := by rw [ev3]
  obtain ⟨v4, ev4⟩ : ∃ zz9 : Int32, zI σ0 into 4 = zz9 := ⟨_, rfl⟩
  have qv4 : v4.toInt = (zI σ0 into 4).toInt := by rw [ev4]
  obtain ⟨v5, ev5⟩ : ∃ zz9 : Int32, zI σ0 into 5 = zz9 := ⟨_, rfl⟩
  have qv5 : v5.toInt = (zI σ0 into 5).toInt := by rw [ev5]
  have b6 : isB v5 := by have q9 := (hT.P (hT.k t_into (by decide)) (by decide)).2; rw [ev5] at q9; exact q9
  obtain ⟨v7, ev7⟩ : ∃ zz9 : Int32, zI σ0 into 6 = zz9 := ⟨_, rfl⟩
  have qv7 : v7.toInt = (zI σ0 into 6).toInt := by rw [ev7]
  have gs8 : v3.toInt = gg 0 ∧ v4.toInt = gg 1 ∧ v5.toInt = gg 2 ∧ v7.toInt = gg 3 := by have z9 := h2; unfold GSc at z9; rw [(show zI σ0 into 3 = v3 from ev3), (show zI σ0 into 4 = v4 from ev4), (show zI σ0 into 5 = v5 from ev5), (show zI σ0 into 6 = v7 from ev7)] at z9; exact z9
  obtain ⟨v9, ev9⟩ : ∃ zz9 : Int32, zI σ0 this 4 = zz9 := ⟨_, rfl⟩
  have qv9 : v9.toInt = (zI σ0 this 4).toInt := by rw [ev9]
  obtain ⟨v10, ev10⟩ : ∃ zz9 : Int32, zI σ0 this 5 = zz9 := ⟨_, rfl⟩
  have qv10 : v10.toInt = (zI σ0 this 5).toInt := by rw [ev10]
  have b11 := (hT.P (hT.k t_this (by decide)) (by decide)).2.1
  rw [ev10] at b11
  have b11l := b11.1
  have b11h := b11.2
  obtain ⟨v12, ev12⟩ : ∃ zz9 : Int32, zI σ0 this 6 = zz9 := ⟨_, rfl⟩
  have qv12 : v12.toInt = (zI σ0 this 6).toInt := by rw [ev12]
  have b13 := (hT.P (hT.k t_this (by decide)) (by decide)).2.2
  rw [ev12] at b13
  have b13l := b13.1
  have b13h := b13.2
  obtain ⟨v14, ev14⟩ : ∃ zz9 : Int32, zI σ0 this 7 = zz9 := ⟨_, rfl⟩
  have qv14 : v14.toInt = (zI σ0 this 7).toInt := by rw [ev14]
  have tk15 : TKv v9 v10 v12 v14 tc Ln sp := by have z9 := h1; unfold TKc at z9; rw [(show zI σ0 this 4 = v9 from ev9), (show zI σ0 this 5 = v10 from ev10), (show zI σ0 this 6 = v12 from ev12), (show zI σ0 this 7 = v14 from ev14)] at z9; exact z9
  obtain ⟨tk154, tk155, tk156, tk157, tk158⟩ := id tk15
  refine lv_aload_n hx hb dX3_readLeast_0 rfl (lv_at hl 0 rfl) ?_
  refine va_get (D := κ.1) (ci := 3) (v := .int (zI σ0 this 4)) (C := RX3) (T := TX3) (N := 8) hx hb hg inX3 hown hK (hT.o6 (hT.k t_this (by decide))).one 0 rfl rfl 4 (by decide) (hg _ k126) (fun _ h9 => h9) rfl dX3_readLeast_1 ?_
  rw [ev9]
  refine lv_iconst (v := 2) hx hb dX3_readLeast_4 (by decide) ?_
  refine lv_icmp_eq (tgt := 14) hx hb dX3_readLeast_5 (by decide) (fun c9 => ?_) (fun c9 => ?_)
  · have c1 := gi_eq c9
    have tk15v := tk157 (by omega)
    refine lv_aload_n hx hb dX3_readLeast_14 rfl (lv_at hl 0 rfl) ?_
    refine va_get (D := κ.1) (ci := 3) (v := .int (zI σ0 this 7)) (C := RX3) (T := TX3) (N := 8) hx hb hg inX3 hown hK (hT.o6 (hT.k t_this (by decide))).one 0 rfl rfl 7 (by decide) (hg _ k129) (fun _ h9 => h9) rfl dX3_readLeast_15 ?_
    rw [ev14]
    refine lv_iconst (v := 2) hx hb dX3_readLeast_18 (by decide) ?_
    refine lv_icmp_lt (tgt := 31) hx hb dX3_readLeast_19 (by decide) (fun c9 => ?_) (fun c9 => ?_)
    · have c2 := gi_lt c9
      refine lv_aload_n hx hb dX3_readLeast_31 rfl (lv_at hl 0 rfl) ?_
      refine lv_iconst (v := 2) hx hb dX3_readLeast_32 (by decide) ?_
      have cz16 : zI σ0 this 5 = v10 := ev10
      have hTo := hT
      refine tVi (n := 1) (As := [.int 2]) (rest := []) hx hb hml hown hg hT hK hX (X3s_isWrong l κ σ0 this 2  (hT.k t_this (by decide)) h0) sub_fW23_fPs (mwV k779 k781 k23 k85 k782) ⟨rfl, by decide, by decide, by decide +kernel⟩ ⟨(Nat.le_of_ble_eq_true rfl), (Nat.le_of_ble_eq_true rfl)⟩ (hT.o6 (hT.k t_this (by decide))) rfl rfl hl.1 rfl (Nat.le_of_ble_eq_true rfl) dX3_readLeast_33 zroom.rf (fun x17 s18 H locs hφ hEs18 hT => ?_)
      have ev3 : zI s18 into 3 = v3 := ((hTo.k t_into (by decide)).eI hEs18 (by decide) rfl).trans ev3
      have ev4 : zI s18 into 4 = v4 := ((hTo.k t_into (by decide)).eI hEs18 (by decide) rfl).trans ev4
      have ev5 : zI s18 into 5 = v5 := ((hTo.k t_into (by decide)).eI hEs18 (by decide) rfl).trans ev5
      have ev7 : zI s18 into 6 = v7 := ((hTo.k t_into (by decide)).eI hEs18 (by decide) rfl).trans ev7
      have ev9 : zI s18 this 4 = v9 := ((hTo.k t_this (by decide)).eI hEs18 (by decide) rfl).trans ev9
      have ev10 : zI s18 this 5 = v10 := ((hTo.k t_this (by decide)).eI hEs18 (by decide) rfl).trans ev10
      have ev12 : zI s18 this 6 = v12 := ((hTo.k t_this (by decide)).eI hEs18 (by decide) rfl).trans ev12
      have ev14 : zI s18 this 7 = v14 := ((hTo.k t_this (by decide)).eI hEs18 (by decide) rfl).trans ev14
      obtain ⟨f19, f20, f21, f22⟩ := hφ
      have wr23 : (zI s18 this 3).toInt = sp := by rw [f21, cz16]; omega
      subst hQ9
      exact t_z hx hb hr f22 hlocks hT ⟨Or.inr ⟨by omega, (fun v q9 => by rcases q9 with ⟨q8, _⟩ | ⟨q8, _⟩ | ⟨q8, _⟩ | ⟨_, q8⟩ <;> omega), ⟨2, Or.inl ⟨rfl, by omega, rfl⟩, by omega⟩, wr23⟩, f22⟩ dX3_readLeast_36
    · have c3 := gi_nlt c9
      refine lv_aload_n hx hb dX3_readLeast_22 rfl (lv_at hl 0 rfl) ?_
      refine va_get (D := κ.1) (ci := 3) (v := .int (zI σ0 this 7)) (C := RX3) (T := TX3) (N := 8) hx hb hg inX3 hown hK (hT.o6 (hT.k t_this (by decide))).one 0 rfl rfl 7 (by decide) (hg _ k129) (fun _ h9 => h9) rfl dX3_readLeast_23 ?_
      rw [ev14]
      refine lv_bipush (v := 48) hx hb dX3_readLeast_26 (by decide) ?_
      refine lv_icmp_le (tgt := 37) hx hb dX3_readLeast_28 (by decide) (fun c9 => ?_) (fun c9 => ?_)
      · have c4 := gi_le c9
        refine lv_aload_n hx hb dX3_readLeast_37 rfl (lv_at hl 1 rfl) ?_
        refine lv_aload_n hx hb dX3_readLeast_38 rfl (lv_at hl 0 rfl) ?_
        refine va_get (D := κ.1) (ci := 3) (v := .int (zI σ0 this 7)) (C := RX3) (T := TX3) (N := 8) hx hb hg inX3 hown hK (hT.o6 (hT.k t_this (by decide))).one 0 rfl rfl 7 (by decide) (hg _ k129) (fun _ h9 => h9) rfl dX3_readLeast_39 ?_
        rw [ev14]
        have hTo := hT
        refine pf5_6 hx hb hg hown hK hT (hT.k t_into (by decide)) rfl (hg _ k176) dX3_readLeast_42 (fun H locs s24 hus24 hT => ?_)
        have ev1 : zI s24 this 2 = v1 := (zput_o hus24 (Or.inr (by decide))).trans ev1
        have ev2 : zI s24 this 3 = v2 := (zput_o hus24 (Or.inr (by decide))).trans ev2
        have ev3 : zI s24 into 3 = v3 := (zput_o hus24 (Or.inr (by decide))).trans ev3
        have ev4 : zI s24 into 4 = v4 := (zput_o hus24 (Or.inr (by decide))).trans ev4
        have ev5 : zI s24 into 5 = v5 := (zput_o hus24 (Or.inr (by decide))).trans ev5
        have ev9 : zI s24 this 4 = v9 := (zput_o hus24 (Or.inr (by decide))).trans ev9
        have ev10 : zI s24 this 5 = v10 := (zput_o hus24 (Or.inr (by decide))).trans ev10
        have ev12 : zI s24 this 6 = v12 := (zput_o hus24 (Or.inl ((hTo.k t_this (by decide)).ne (hTo.k t_into (by decide)) (by decide)))).trans ev12
        have ev14 : zI s24 this 7 = v14 := (zput_o hus24 (Or.inr (by decide))).trans ev14
        have e25 : zI s24 into 6 = v14 := zput_at hus24
        refine lv_aload_n hx hb dX3_readLeast_45 rfl (lv_at hl 0 rfl) ?_
        have hTo := hT
        refine tVi (n := 0) (As := []) (rest := []) hx hb hml hown hg hT hK hX (X3s_pass l κ s24 this  (hT.k t_this (by decide)) (h0.tr (funext fun k => by rw [erB]; exact hT.eI trB (by decide) rfl rfl) (hT.eI t_this (by decide) rfl rfl)) (show (zI s24 this 6).toInt = (utkE tc Ln sp : Nat) from by rw [(show zI s24 this 6 = v12 from ev12)]; omega) (utkE_le tk158)) sub_fP_fPs (mwV k697 k699 k17 k85 k700) ⟨rfl, by decide, by decide, by decide +kernel⟩ ⟨(Nat.le_of_ble_eq_true rfl), (Nat.le_of_ble_eq_true rfl)⟩ (hT.o6 (hT.k t_this (by decide))) rfl rfl hl.1 rfl (Nat.le_of_ble_eq_true rfl) dX3_readLeast_46 zroom.rf (fun x26 s27 H locs hφ hEs27 hT => ?_)
        have ev1 : zI s27 this 2 = v1 := ((hTo.k t_this (by decide)).eI hEs27 (by decide) rfl).trans ev1
        have ev2 : zI s27 this 3 = v2 := ((hTo.k t_this (by decide)).eI hEs27 (by decide) rfl).trans ev2
        have ev3 : zI s27 into 3 = v3 := ((hTo.k t_into (by decide)).eI hEs27 (by decide) rfl).trans ev3
        have ev4 : zI s27 into 4 = v4 := ((hTo.k t_into (by decide)).eI hEs27 (by decide) rfl).trans ev4
        have ev5 : zI s27 into 5 = v5 := ((hTo.k t_into (by decide)).eI hEs27 (by decide) rfl).trans ev5
        have e25 : zI s27 into 6 = v14 := ((hTo.k t_into (by decide)).eI hEs27 (by decide) rfl).trans e25
        obtain ⟨f28, f29, f30⟩ := hφ
        subst hQ9
        exact t_z hx hb hr f30 hlocks hT ⟨Or.inl ⟨by omega, ⟨uvl tc Ln sp, Or.inr (Or.inr (Or.inr ⟨rfl, by omega, by omega, by omega, rfl⟩)), (show GSc s27 into (fun j => if j = 3 then uvl tc Ln sp else gg j) from ⟨by rw [(show zI s27 into 3 = v3 from ev3)]; exact gs8.1, by rw [(show zI s27 into 4 = v4 from ev4)]; exact gs8.2.1, by rw [(show zI s27 into 5 = v5 from ev5)]; exact gs8.2.2.1, by rw [(show zI s27 into 6 = v14 from e25)]; exact (show _ = uvl tc Ln sp from by omega)⟩)⟩, f29, ((show zI s27 this 2 = v1 from ev1).trans zthis2.symm), ((show zI s27 this 3 = v2 from ev2).trans zthis3.symm)⟩, f30⟩ dX3_readLeast_49
      · have c5 := gi_nle c9
        refine lv_aload_n hx hb dX3_readLeast_31 rfl (lv_at hl 0 rfl) ?_
        refine lv_iconst (v := 2) hx hb dX3_readLeast_32 (by decide) ?_
        have cz31 : zI σ0 this 5 = v10 := ev10
        have hTo := hT
        refine tVi (n := 1) (As := [.int 2]) (rest := []) hx hb hml hown hg hT hK hX (X3s_isWrong l κ σ0 this 2  (hT.k t_this (by decide)) h0) sub_fW23_fPs (mwV k779 k781 k23 k85 k782) ⟨rfl, by decide, by decide, by decide +kernel⟩ ⟨(Nat.le_of_ble_eq_true rfl), (Nat.le_of_ble_eq_true rfl)⟩ (hT.o6 (hT.k t_this (by decide))) rfl rfl hl.1 rfl (Nat.le_of_ble_eq_true rfl) dX3_readLeast_33 zroom.rf (fun x32 s33 H locs hφ hEs33 hT => ?_)
        have ev3 : zI s33 into 3 = v3 := ((hTo.k t_into (by decide)).eI hEs33 (by decide) rfl).trans ev3
        have ev4 : zI s33 into 4 = v4 := ((hTo.k t_into (by decide)).eI hEs33 (by decide) rfl).trans ev4
        have ev5 : zI s33 into 5 = v5 := ((hTo.k t_into (by decide)).eI hEs33 (by decide) rfl).trans ev5
        have ev7 : zI s33 into 6 = v7 := ((hTo.k t_into (by decide)).eI hEs33 (by decide) rfl).trans ev7
        have ev9 : zI s33 this 4 = v9 := ((hTo.k t_this (by decide)).eI hEs33 (by decide) rfl).trans ev9
        have ev10 : zI s33 this 5 = v10 := ((hTo.k t_this (by decide)).eI hEs33 (by decide) rfl).trans ev10
        have ev12 : zI s33 this 6 = v12 := ((hTo.k t_this (by decide)).eI hEs33 (by decide) rfl).trans ev12
        have ev14 : zI s33 this 7 = v14 := ((hTo.k t_this (by decide)).eI hEs33 (by decide) rfl).trans ev14
        obtain ⟨f34, f35, f36, f37⟩ := hφ
        have wr38 : (zI s33 this 3).toInt = sp := by rw [f36, cz31]; omega
        subst hQ9
        exact t_z hx hb hr f37 hlocks hT ⟨Or.inr ⟨by omega, (fun v q9 => by rcases q9 with ⟨q8, _⟩ | ⟨q8, _⟩ | ⟨q8, _⟩ | ⟨_, q8⟩ <;> omega), ⟨2, Or.inl ⟨rfl, by omega, rfl⟩, by omega⟩, wr38⟩, f37⟩ dX3_readLeast_36
  · have c6 := gi_ne c9
    refine lv_aload_n hx hb dX3_readLeast_8 rfl (lv_at hl 0 rfl) ?_
    refine lv_iconst (v := 1) hx hb dX3_readLeast_9 (by decide) ?_
    have cz39 : zI σ0 this 5 = v10 := ev10
    have hTo := hT
    refine tVi (n := 1) (As := [.int 1]) (rest := []) hx hb hml hown hg hT hK hX (X3s_isWrong l κ σ0 this 1  (hT.k t_this (by decide)) h0) sub_fW23_fPs (mwV k779 k781 k23 k85 k782) ⟨rfl, by decide, by decide, by decide +kernel⟩ ⟨(Nat.le_of_ble_eq_true rfl), (Nat.le_of_ble_eq_true rfl)⟩ (hT.o6 (hT.k t_this (by decide))) rfl rfl hl.1 rfl (Nat.le_of_ble_eq_true rfl) dX3_readLeast_10 zroom.rf (fun x40 s41 H locs hφ hEs41 hT => ?_)
    have ev3 : zI s41 into 3 = v3 := ((hTo.k t_into (by decide)).eI hEs41 (by decide) rfl).trans ev3
    have ev4 : zI s41 into 4 = v4 := ((hTo.k t_into (by decide)).eI hEs41 (by decide) rfl).trans ev4
    have ev5 : zI s41 into 5 = v5 := ((hTo.k t_into (by decide)).eI hEs41 (by decide) rfl).trans ev5
    have ev7 : zI s41 into 6 = v7 := ((hTo.k t_into (by decide)).eI hEs41 (by decide) rfl).trans ev7
    have ev9 : zI s41 this 4 = v9 := ((hTo.k t_this (by decide)).eI hEs41 (by decide) rfl).trans ev9
    have ev10 : zI s41 this 5 = v10 := ((hTo.k t_this (by decide)).eI hEs41 (by decide) rfl).trans ev10
    have ev12 : zI s41 this 6 = v12 := ((hTo.k t_this (by decide)).eI hEs41 (by decide) rfl).trans ev12
    have ev14 : zI s41 this 7 = v14 := ((hTo.k t_this (by decide)).eI hEs41 (by decide) rfl).trans ev14
    obtain ⟨f42, f43, f44, f45⟩ := hφ
    have wr46 : (zI s41 this 3).toInt = sp := by rw [f44, cz39]; omega
    subst hQ9
    exact t_z hx hb hr f45 hlocks hT ⟨Or.inr ⟨by omega, (fun v q9 => by rcases q9 with ⟨q8, _⟩ | ⟨q8, _⟩ | ⟨q8, _⟩ | ⟨_, q8⟩ <;> omega), ⟨1, Or.inr ⟨by omega, rfl⟩, by omega⟩, wr46⟩, f45⟩ dX3_readLeast_13
set_option maxHeartbeats 4000000 in
set_option maxRecDepth 100000 in
theorem X3s_readSetting (l : Launch) (κ : Kt) (σ0 : Gh) (this : Nat) (st : Int32) (into : Nat) {tc : Nat → Int} {Ln : Nat} {sp : Nat} {gg : Nat → Int} {i : Nat} (t_this : zk σ0 this 6) (t_into : zk σ0 into 5) (h0 : TXc κ σ0 this tc Ln) (h1 : TKc σ0 this tc Ln sp) (h2 : GSc σ0 into gg) (h3 : st.toInt = (i : Nat)) (h4 : i < 4) : TC l yX3_readSetting cX3_readSetting 3 (some .boolean) 5 107 [.ref this, .int st, .ref into] κ σ0 (tqi κ fPs σ0 (fun (r : Int32) (τ : Gh) => ((r.toInt = 1 ∧ (∃ v : Int, uvIs (utkK tc Ln) (uvl tc Ln) (uWd tc Ln) i sp v ∧ GSc τ into (fun j => if j = i then v else gg j)) ∧ TKc τ this tc Ln (unxt tc Ln sp) ∧ zI τ this 2 = zI σ0 this 2 ∧ zI τ this 3 = zI σ0 this 3) ∨ (r.toInt = 0 ∧ (∀ v, ¬ uvIs (utkK tc Ln) (uvl tc Ln) (uWd tc Ln) i sp v) ∧ (∃ co : Int, uvBad (utkK tc Ln) i sp co ∧ (zI τ this 2).toInt = co) ∧ (zI τ this 3).toInt = sp)) ∧ (isB r))) := by
  refine TC.of fPs (by decide +kernel) (Nat.le_of_ble_eq_true rfl) ?_
  intro p e s m below meth c ls hcs hK hX hT hl
  obtain ⟨hx, hb, hr, hml, hown, hg, hlocks, hin⟩ := hcs
  have hown : s.vm.findClass RX3 = some m.cls := hown
  have hl : lv_has ls 3 [(0, .ref this), (1, .int st), (2, .ref into)] := hl
  have hT0 := hT
  have nm1 : ((-1) : Int32).toInt = (-1) := by decide
  have n0 : (0 : Int32).toInt = 0 := by decide
  have n1 : (1 : Int32).toInt = 1 := by decide
  have n2 : (2 : Int32).toInt = 2 := by decide
  have st_lo := Int32.le_toInt st
  have st_hi := Int32.toInt_lt st
  generalize hQ9 : tQ _ _ _ _ _ _ = Q9
  obtain ⟨rB, erB⟩ : ∃ z, kR κ this 0 = z := ⟨_, rfl⟩
  have trB : zk σ0 rB 14 := by rw [← erB]; exact hT0.ref t_this (by decide) (by decide) (by decide)
  have hpc : ∀ j, tc j = (zI σ0 rB j).toInt := by rw [← erB]; exact h0.1
  have hLn : (zI σ0 this 1).toInt = Ln := h0.2
  have bL := (hT0.P t_this (by decide)).1.2
  have hL7 : (Ln : Int) ≤ 700 := by omega
  obtain ⟨v1, ev1⟩ : ∃ zz9 : Int32, zI σ0 this 2 = zz9 := ⟨_, rfl⟩
  have qv1 : v1.toInt = (zI σ0 this 2).toInt := by rw [ev1]
  have zthis2 : zI σ0 this 2 = v1 := ev1
  obtain ⟨v2, ev2⟩ : ∃ zz9 : Int32, zI σ0 this 3 = zz9 := ⟨_, rfl⟩
  have qv2 : v2.toInt = (zI σ0 this 3).toInt := by rw [ev2]
  have zthis3 : zI σ0 this 3 = v2 := ev2
  obtain ⟨v3, ev3⟩ : ∃ zz9 : Int32, zI σ0 into 3 = zz9 := ⟨_, rfl⟩
  have qv3 : v3.toInt = (zI σ0 into 3).toInt := by rw [ev3]
  obtain ⟨v4, ev4⟩ : ∃ zz9 : Int32, zI σ0 into 4 = zz9 := ⟨_, rfl⟩
  have qv4 : v4.toInt = (zI σ0 into 4).toInt := by rw [ev4]
  obtain ⟨v5, ev5⟩ : ∃ zz9 : Int32, zI σ0 into 5 = zz9 := ⟨_, rfl⟩
  have qv5 : v5.toInt = (zI σ0 into 5).toInt := by rw [ev5]
  have b6 : isB v5 := by have q9 := (hT.P (hT.k t_into (by decide)) (by decide)).2; rw [ev5] at q9; exact q9
  obtain ⟨v7, ev7⟩ : ∃ zz9 : Int32, zI σ0 into 6 = zz9 := ⟨_, rfl⟩
  have qv7 : v7.toInt = (zI σ0 into 6).toInt := by rw [ev7]
  have gs8 : v3.toInt = gg 0 ∧ v4.toInt = gg 1 ∧ v5.toInt = gg 2 ∧ v7.toInt = gg 3 := by have z9 := h2; unfold GSc at z9; rw [(show zI σ0 into 3 = v3 from ev3), (show zI σ0 into 4 = v4 from ev4), (show zI σ0 into 5 = v5 from ev5), (show zI σ0 into 6 = v7 from ev7)] at z9; exact z9
  obtain ⟨v9, ev9⟩ : ∃ zz9 : Int32, zI σ0 this 4 = zz9 := ⟨_, rfl⟩
  have qv9 : v9.toInt = (zI σ0 this 4).toInt := by rw [ev9]
  obtain ⟨v10, ev10⟩ : ∃ zz9 : Int32, zI σ0 this 5 = zz9 := ⟨_, rfl⟩
  have qv10 : v10.toInt = (zI σ0 this 5).toInt := by rw [ev10]
  have b11 := (hT.P (hT.k t_this (by decide)) (by decide)).2.1
  rw [ev10] at b11
  have b11l := b11.1
  have b11h := b11.2
  obtain ⟨v12, ev12⟩ : ∃ zz9 : Int32, zI σ0 this 6 = zz9 := ⟨_, rfl⟩
  have qv12 : v12.toInt = (zI σ0 this 6).toInt := by rw [ev12]
  have b13 := (hT.P (hT.k t_this (by decide)) (by decide)).2.2
  rw [ev12] at b13
  have b13l := b13.1
  have b13h := b13.2
  obtain ⟨v14, ev14⟩ : ∃ zz9 : Int32, zI σ0 this 7 = zz9 := ⟨_, rfl⟩
  have qv14 : v14.toInt = (zI σ0 this 7).toInt := by rw [ev14]
  have tk15 : TKv v9 v10 v12 v14 tc Ln sp := by have z9 := h1; unfold TKc at z9; rw [(show zI σ0 this 4 = v9 from ev9), (show zI σ0 this 5 = v10 from ev10), (show zI σ0 this 6 = v12 from ev12), (show zI σ0 this 7 = v14 from ev14)] at z9; exact z9
  obtain ⟨tk154, tk155, tk156, tk157, tk158⟩ := id tk15
  refine lv_iload_n hx hb dX3_readSetting_0 rfl (lv_at hl 1 rfl) ?_
  by_cases q16 : st = 0
  · have q16i := gi_eq q16
    refine lv_tableIn (off := 27) (tgt := 28) hx hb dX3_readSetting_1 (by rw [q16]; decide) (by rw [q16]; decide) (by rw [q16]; decide) (by decide) ?_
    obtain rfl : i = 0 := by omega
    refine lv_aload_n hx hb dX3_readSetting_28 rfl (lv_at hl 2 rfl) ?_
    refine lv_aload_n hx hb dX3_readSetting_29 rfl (lv_at hl 0 rfl) ?_
    refine va_ldcS hx hb hown (hX.2.2.1 4 (by decide)) dX3_readSetting_30 ?_
    have hTo := hT
    refine tVi (n := 1) (As := [.ref (kK κ 4)]) (rest := [.ref into]) hx hb hml hown hg hT hK hX (X3s_isWord l κ σ0 this 4  (hT.k t_this (by decide)) (by decide) h0 (show TKc σ0 this tc Ln sp from by unfold TKc; rw [(show zI σ0 this 4 = v9 from ev9), (show zI σ0 this 5 = v10 from ev10), (show zI σ0 this 6 = v12 from ev12), (show zI σ0 this 7 = v14 from ev14)]; exact tk15)) sub_fE_fPs (mwV k724 k726 k22 k85 k727) ⟨rfl, by decide, by decide, by decide +kernel⟩ ⟨(Nat.le_of_ble_eq_true rfl), (Nat.le_of_ble_eq_true rfl)⟩ (hT.o6 (hT.k t_this (by decide))) rfl rfl hl.1 rfl (Nat.le_of_ble_eq_true rfl) dX3_readSetting_32 zroom.rf (fun x17 s18 H locs hφ hEs18 hT => ?_)
    have ev1 : zI s18 this 2 = v1 := ((hTo.k t_this (by decide)).eI hEs18 (by decide) rfl).trans ev1
    have ev2 : zI s18 this 3 = v2 := ((hTo.k t_this (by decide)).eI hEs18 (by decide) rfl).trans ev2
    have ev3 : zI s18 into 3 = v3 := ((hTo.k t_into (by decide)).eI hEs18 (by decide) rfl).trans ev3
    have ev4 : zI s18 into 4 = v4 := ((hTo.k t_into (by decide)).eI hEs18 (by decide) rfl).trans ev4
    have ev5 : zI s18 into 5 = v5 := ((hTo.k t_into (by decide)).eI hEs18 (by decide) rfl).trans ev5
    have ev7 : zI s18 into 6 = v7 := ((hTo.k t_into (by decide)).eI hEs18 (by decide) rfl).trans ev7
    have ev9 : zI s18 this 4 = v9 := ((hTo.k t_this (by decide)).eI hEs18 (by decide) rfl).trans ev9
    have ev10 : zI s18 this 5 = v10 := ((hTo.k t_this (by decide)).eI hEs18 (by decide) rfl).trans ev10
    have ev12 : zI s18 this 6 = v12 := ((hTo.k t_this (by decide)).eI hEs18 (by decide) rfl).trans ev12
    have ev14 : zI s18 this 7 = v14 := ((hTo.k t_this (by decide)).eI hEs18 (by decide) rfl).trans ev14
    obtain ⟨f19, f20⟩ := hφ
    refine lv_if_eq (tgt := 42) hx hb dX3_readSetting_35 (by decide) (fun c9 => ?_) (fun c9 => ?_)
    · have c1 := gi_eq c9
      refine lv_aload_n hx hb dX3_readSetting_42 rfl (lv_at hl 0 rfl) ?_
      refine va_ldcS hx hb hown (hX.2.2.1 5 (by decide)) dX3_readSetting_43 ?_
      have hTo := hT
      refine tVi (n := 1) (As := [.ref (kK κ 5)]) (rest := [.ref into]) hx hb hml hown hg hT hK hX (X3s_isWord l κ s18 this 5  (hT.k t_this (by decide)) (by decide) (h0.tr (funext fun k => by rw [erB]; exact hT.eI trB (by decide) rfl rfl) (hT.eI t_this (by decide) rfl rfl)) (show TKc s18 this tc Ln sp from by unfold TKc; rw [(show zI s18 this 4 = v9 from ev9), (show zI s18 this 5 = v10 from ev10), (show zI s18 this 6 = v12 from ev12), (show zI s18 this 7 = v14 from ev14)]; exact tk15)) sub_fE_fPs (mwV k724 k726 k22 k85 k727) ⟨rfl, by decide, by decide, by decide +kernel⟩ ⟨(Nat.le_of_ble_eq_true rfl), (Nat.le_of_ble_eq_true rfl)⟩ (hT.o6 (hT.k t_this (by decide))) rfl rfl hl.1 rfl (Nat.le_of_ble_eq_true rfl) dX3_readSetting_45 zroom.rf (fun x21 s22 H locs hφ hEs22 hT => ?_)
      have ev1 : zI s22 this 2 = v1 := ((hTo.k t_this (by decide)).eI hEs22 (by decide) rfl).trans ev1
      have ev2 : zI s22 this 3 = v2 := ((hTo.k t_this (by decide)).eI hEs22 (by decide) rfl).trans ev2
      have ev3 : zI s22 into 3 = v3 := ((hTo.k t_into (by decide)).eI hEs22 (by decide) rfl).trans ev3
      have ev4 : zI s22 into 4 = v4 := ((hTo.k t_into (by decide)).eI hEs22 (by decide) rfl).trans ev4
      have ev5 : zI s22 into 5 = v5 := ((hTo.k t_into (by decide)).eI hEs22 (by decide) rfl).trans ev5
      have ev7 : zI s22 into 6 = v7 := ((hTo.k t_into (by decide)).eI hEs22 (by decide) rfl).trans ev7
      have ev9 : zI s22 this 4 = v9 := ((hTo.k t_this (by decide)).eI hEs22 (by decide) rfl).trans ev9
      have ev10 : zI s22 this 5 = v10 := ((hTo.k t_this (by decide)).eI hEs22 (by decide) rfl).trans ev10
      have ev12 : zI s22 this 6 = v12 := ((hTo.k t_this (by decide)).eI hEs22 (by decide) rfl).trans ev12
      have ev14 : zI s22 this 7 = v14 := ((hTo.k t_this (by decide)).eI hEs22 (by decide) rfl).trans ev14
      obtain ⟨f23, f24⟩ := hφ
      refine lv_if_eq (tgt := 55) hx hb dX3_readSetting_48 (by decide) (fun c9 => ?_) (fun c9 => ?_)
      · have c2 := gi_eq c9
        refine lv_aload_n hx hb dX3_readSetting_55 rfl (lv_at hl 0 rfl) ?_
        refine va_ldcS hx hb hown (hX.2.2.1 6 (by decide)) dX3_readSetting_56 ?_
        have hTo := hT
        refine tVi (n := 1) (As := [.ref (kK κ 6)]) (rest := [.ref into]) hx hb hml hown hg hT hK hX (X3s_isWord l κ s22 this 6  (hT.k t_this (by decide)) (by decide) (h0.tr (funext fun k => by rw [erB]; exact hT.eI trB (by decide) rfl rfl) (hT.eI t_this (by decide) rfl rfl)) (show TKc s22 this tc Ln sp from by unfold TKc; rw [(show zI s22 this 4 = v9 from ev9), (show zI s22 this 5 = v10 from ev10), (show zI s22 this 6 = v12 from ev12), (show zI s22 this 7 = v14 from ev14)]; exact tk15)) sub_fE_fPs (mwV k724 k726 k22 k85 k727) ⟨rfl, by decide, by decide, by decide +kernel⟩ ⟨(Nat.le_of_ble_eq_true rfl), (Nat.le_of_ble_eq_true rfl)⟩ (hT.o6 (hT.k t_this (by decide))) rfl rfl hl.1 rfl (Nat.le_of_ble_eq_true rfl) dX3_readSetting_58 zroom.rf (fun x25 s26 H locs hφ hEs26 hT => ?_)
        have ev1 : zI s26 this 2 = v1 := ((hTo.k t_this (by decide)).eI hEs26 (by decide) rfl).trans ev1
        have ev2 : zI s26 this 3 = v2 := ((hTo.k t_this (by decide)).eI hEs26 (by decide) rfl).trans ev2
        have ev3 : zI s26 into 3 = v3 := ((hTo.k t_into (by decide)).eI hEs26 (by decide) rfl).trans ev3
        have ev4 : zI s26 into 4 = v4 := ((hTo.k t_into (by decide)).eI hEs26 (by decide) rfl).trans ev4
        have ev5 : zI s26 into 5 = v5 := ((hTo.k t_into (by decide)).eI hEs26 (by decide) rfl).trans ev5
        have ev7 : zI s26 into 6 = v7 := ((hTo.k t_into (by decide)).eI hEs26 (by decide) rfl).trans ev7
        have ev9 : zI s26 this 4 = v9 := ((hTo.k t_this (by decide)).eI hEs26 (by decide) rfl).trans ev9
        have ev10 : zI s26 this 5 = v10 := ((hTo.k t_this (by decide)).eI hEs26 (by decide) rfl).trans ev10
        have ev12 : zI s26 this 6 = v12 := ((hTo.k t_this (by decide)).eI hEs26 (by decide) rfl).trans ev12
        have ev14 : zI s26 this 7 = v14 := ((hTo.k t_this (by decide)).eI hEs26 (by decide) rfl).trans ev14
        obtain ⟨f27, f28⟩ := hφ
        refine lv_if_eq (tgt := 68) hx hb dX3_readSetting_61 (by decide) (fun c9 => ?_) (fun c9 => ?_)
        · have c3 := gi_eq c9
          refine lv_iconst (v := (-1)) hx hb dX3_readSetting_68 (by decide) ?_
          have hTo := hT
          refine pf5_3 hx hb hg hown hK hT (hT.k t_into (by decide)) rfl (hg _ k167) dX3_readSetting_69 (fun H locs s29 hus29 hT => ?_)
          have ev1 : zI s29 this 2 = v1 := (zput_o hus29 (Or.inr (by decide))).trans ev1
          have ev2 : zI s29 this 3 = v2 := (zput_o hus29 (Or.inl ((hTo.k t_this (by decide)).ne (hTo.k t_into (by decide)) (by decide)))).trans ev2
          have ev4 : zI s29 into 4 = v4 := (zput_o hus29 (Or.inr (by decide))).trans ev4
          have ev5 : zI s29 into 5 = v5 := (zput_o hus29 (Or.inr (by decide))).trans ev5
          have ev7 : zI s29 into 6 = v7 := (zput_o hus29 (Or.inr (by decide))).trans ev7
          have ev9 : zI s29 this 4 = v9 := (zput_o hus29 (Or.inr (by decide))).trans ev9
          have ev10 : zI s29 this 5 = v10 := (zput_o hus29 (Or.inr (by decide))).trans ev10
          have ev12 : zI s29 this 6 = v12 := (zput_o hus29 (Or.inr (by decide))).trans ev12
          have ev14 : zI s29 this 7 = v14 := (zput_o hus29 (Or.inr (by decide))).trans ev14
          have e30 : zI s29 into 3 = (-1) := zput_at hus29
          refine lv_aload_n hx hb dX3_readSetting_72 rfl (lv_at hl 2 rfl) ?_
          refine va_get (D := κ.1) (ci := 0) (v := .int (zI s29 into 3)) (C := RX0) (T := TX0) (N := 7) hx hb hg inX0 hown hK (hT.o5 (hT.k t_into (by decide))).one 0 rfl rfl 3 (by decide) (hg _ k167) (fun _ h9 => h9) rfl dX3_readSetting_73 ?_
          rw [e30]
          refine lv_iconst (v := (-1)) hx hb dX3_readSetting_76 (by decide) ?_
          refine lv_icmp_ne (tgt := 88) hx hb dX3_readSetting_77 (by decide) (fun c9 => absurd (by decide) c9) (fun _ => ?_)
          refine lv_aload_n hx hb dX3_readSetting_80 rfl (lv_at hl 0 rfl) ?_
          refine lv_iconst (v := 1) hx hb dX3_readSetting_81 (by decide) ?_
          have cz31 : zI s29 this 5 = v10 := ev10
          have hTo := hT
          refine tVi (n := 1) (As := [.int 1]) (rest := []) hx hb hml hown hg hT hK hX (X3s_isWrong l κ s29 this 1  (hT.k t_this (by decide)) (h0.tr (funext fun k => by rw [erB]; exact hT.eI trB (by decide) rfl rfl) (hT.eI t_this (by decide) rfl rfl))) sub_fW23_fPs (mwV k779 k781 k23 k85 k782) ⟨rfl, by decide, by decide, by decide +kernel⟩ ⟨(Nat.le_of_ble_eq_true rfl), (Nat.le_of_ble_eq_true rfl)⟩ (hT.o6 (hT.k t_this (by decide))) rfl rfl hl.1 rfl (Nat.le_of_ble_eq_true rfl) dX3_readSetting_82 zroom.rf (fun x32 s33 H locs hφ hEs33 hT => ?_)
          have ev4 : zI s33 into 4 = v4 := ((hTo.k t_into (by decide)).eI hEs33 (by decide) rfl).trans ev4
          have ev5 : zI s33 into 5 = v5 := ((hTo.k t_into (by decide)).eI hEs33 (by decide) rfl).trans ev5
          have ev7 : zI s33 into 6 = v7 := ((hTo.k t_into (by decide)).eI hEs33 (by decide) rfl).trans ev7
          have ev9 : zI s33 this 4 = v9 := ((hTo.k t_this (by decide)).eI hEs33 (by decide) rfl).trans ev9
          have ev10 : zI s33 this 5 = v10 := ((hTo.k t_this (by decide)).eI hEs33 (by decide) rfl).trans ev10
          have ev12 : zI s33 this 6 = v12 := ((hTo.k t_this (by decide)).eI hEs33 (by decide) rfl).trans ev12
          have ev14 : zI s33 this 7 = v14 := ((hTo.k t_this (by decide)).eI hEs33 (by decide) rfl).trans ev14
          have e30 : zI s33 into 3 = (-1) := ((hTo.k t_into (by decide)).eI hEs33 (by decide) rfl).trans e30
          obtain ⟨f34, f35, f36, f37⟩ := hφ
          have wr38 : (zI s33 this 3).toInt = sp := by rw [f36, cz31]; omega
          refine lv_goto (tgt := 92) hx hb dX3_readSetting_85 (by decide) ?_
          subst hQ9
          exact t_z hx hb hr f37 hlocks hT ⟨Or.inr ⟨by omega, (fun v q9 => by rcases q9 with ⟨q8, q7⟩ | ⟨q8, q7⟩ | ⟨q8, q7⟩ | ⟨q8, q7⟩ <;> first | (exact absurd q8 (by decide)) | (obtain ⟨j, q1, q2, q5, -⟩ := q7; rcases (show j = 4 ∨ j = 5 ∨ j = 6 by omega) with rfl | rfl | rfl <;> first | exact (f19.resolve_left (fun q9 => by have := q9.1; omega)).2 q5.2 | exact (f23.resolve_left (fun q9 => by have := q9.1; omega)).2 q5.2 | exact (f27.resolve_left (fun q9 => by have := q9.1; omega)).2 q5.2)), ⟨1, Or.inr ⟨fun q9 => absurd q9.1 (by decide), rfl⟩, by omega⟩, wr38⟩, f37⟩ dX3_readSetting_92
        · have c4 := gi_ne c9
          refine lv_iconst (v := 2) hx hb dX3_readSetting_64 (by decide) ?_
          refine lv_goto (tgt := 69) hx hb dX3_readSetting_65 (by decide) ?_
          have hTo := hT
          refine pf5_3 hx hb hg hown hK hT (hT.k t_into (by decide)) rfl (hg _ k167) dX3_readSetting_69 (fun H locs s39 hus39 hT => ?_)
          have ev1 : zI s39 this 2 = v1 := (zput_o hus39 (Or.inr (by decide))).trans ev1
          have ev2 : zI s39 this 3 = v2 := (zput_o hus39 (Or.inl ((hTo.k t_this (by decide)).ne (hTo.k t_into (by decide)) (by decide)))).trans ev2
          have ev4 : zI s39 into 4 = v4 := (zput_o hus39 (Or.inr (by decide))).trans ev4
          have ev5 : zI s39 into 5 = v5 := (zput_o hus39 (Or.inr (by decide))).trans ev5
          have ev7 : zI s39 into 6 = v7 := (zput_o hus39 (Or.inr (by decide))).trans ev7
          have ev9 : zI s39 this 4 = v9 := (zput_o hus39 (Or.inr (by decide))).trans ev9
          have ev10 : zI s39 this 5 = v10 := (zput_o hus39 (Or.inr (by decide))).trans ev10
          have ev12 : zI s39 this 6 = v12 := (zput_o hus39 (Or.inr (by decide))).trans ev12
          have ev14 : zI s39 this 7 = v14 := (zput_o hus39 (Or.inr (by decide))).trans ev14
          have e40 : zI s39 into 3 = 2 := zput_at hus39
          refine lv_aload_n hx hb dX3_readSetting_72 rfl (lv_at hl 2 rfl) ?_
          refine va_get (D := κ.1) (ci := 0) (v := .int (zI s39 into 3)) (C := RX0) (T := TX0) (N := 7) hx hb hg inX0 hown hK (hT.o5 (hT.k t_into (by decide))).one 0 rfl rfl 3 (by decide) (hg _ k167) (fun _ h9 => h9) rfl dX3_readSetting_73 ?_
          rw [e40]
          refine lv_iconst (v := (-1)) hx hb dX3_readSetting_76 (by decide) ?_
          refine lv_icmp_ne (tgt := 88) hx hb dX3_readSetting_77 (by decide) (fun _ => ?_) (fun c9 => absurd c9 (by decide))
          refine lv_aload_n hx hb dX3_readSetting_88 rfl (lv_at hl 0 rfl) ?_
          have hTo := hT
          refine tVi (n := 0) (As := []) (rest := []) hx hb hml hown hg hT hK hX (X3s_pass l κ s39 this  (hT.k t_this (by decide)) (h0.tr (funext fun k => by rw [erB]; exact hT.eI trB (by decide) rfl rfl) (hT.eI t_this (by decide) rfl rfl)) (show (zI s39 this 6).toInt = (utkE tc Ln sp : Nat) from by rw [(show zI s39 this 6 = v12 from ev12)]; omega) (utkE_le tk158)) sub_fP_fPs (mwV k697 k699 k17 k85 k700) ⟨rfl, by decide, by decide, by decide +kernel⟩ ⟨(Nat.le_of_ble_eq_true rfl), (Nat.le_of_ble_eq_true rfl)⟩ (hT.o6 (hT.k t_this (by decide))) rfl rfl hl.1 rfl (Nat.le_of_ble_eq_true rfl) dX3_readSetting_89 zroom.rf (fun x41 s42 H locs hφ hEs42 hT => ?_)
          have ev1 : zI s42 this 2 = v1 := ((hTo.k t_this (by decide)).eI hEs42 (by decide) rfl).trans ev1
          have ev2 : zI s42 this 3 = v2 := ((hTo.k t_this (by decide)).eI hEs42 (by decide) rfl).trans ev2
          have ev4 : zI s42 into 4 = v4 := ((hTo.k t_into (by decide)).eI hEs42 (by decide) rfl).trans ev4
          have ev5 : zI s42 into 5 = v5 := ((hTo.k t_into (by decide)).eI hEs42 (by decide) rfl).trans ev5
          have ev7 : zI s42 into 6 = v7 := ((hTo.k t_into (by decide)).eI hEs42 (by decide) rfl).trans ev7
          have e40 : zI s42 into 3 = 2 := ((hTo.k t_into (by decide)).eI hEs42 (by decide) rfl).trans e40
          obtain ⟨f43, f44, f45⟩ := hφ
          subst hQ9
          exact t_z hx hb hr f45 hlocks hT ⟨Or.inl ⟨by omega, ⟨2, Or.inl ⟨rfl, 6, by decide, by decide, ⟨by decide, (f27.resolve_right (fun q9 => by have := q9.1; omega)).2⟩, by decide⟩, (show GSc s42 into (fun j => if j = 0 then 2 else gg j) from ⟨by rw [(show zI s42 into 3 = 2 from e40)]; exact (show _ = (2 : Int) from by omega), by rw [(show zI s42 into 4 = v4 from ev4)]; exact gs8.2.1, by rw [(show zI s42 into 5 = v5 from ev5)]; exact gs8.2.2.1, by rw [(show zI s42 into 6 = v7 from ev7)]; exact gs8.2.2.2⟩)⟩, f44, ((show zI s42 this 2 = v1 from ev1).trans zthis2.symm), ((show zI s42 this 3 = v2 from ev2).trans zthis3.symm)⟩, f45⟩ dX3_readSetting_92
      · have c5 := gi_ne c9
        refine lv_iconst (v := 1) hx hb dX3_readSetting_51 (by decide) ?_
        refine lv_goto (tgt := 69) hx hb dX3_readSetting_52 (by decide) ?_
        have hTo := hT
        refine pf5_3 hx hb hg hown hK hT (hT.k t_into (by decide)) rfl (hg _ k167) dX3_readSetting_69 (fun H locs s46 hus46 hT => ?_)
        have ev1 : zI s46 this 2 = v1 := (zput_o hus46 (Or.inr (by decide))).trans ev1
        have ev2 : zI s46 this 3 = v2 := (zput_o hus46 (Or.inl ((hTo.k t_this (by decide)).ne (hTo.k t_into (by decide)) (by decide)))).trans ev2
        have ev4 : zI s46 into 4 = v4 := (zput_o hus46 (Or.inr (by decide))).trans ev4
        have ev5 : zI s46 into 5 = v5 := (zput_o hus46 (Or.inr (by decide))).trans ev5
        have ev7 : zI s46 into 6 = v7 := (zput_o hus46 (Or.inr (by decide))).trans ev7
        have ev9 : zI s46 this 4 = v9 := (zput_o hus46 (Or.inr (by decide))).trans ev9
        have ev10 : zI s46 this 5 = v10 := (zput_o hus46 (Or.inr (by decide))).trans ev10
        have ev12 : zI s46 this 6 = v12 := (zput_o hus46 (Or.inr (by decide))).trans ev12
        have ev14 : zI s46 this 7 = v14 := (zput_o hus46 (Or.inr (by decide))).trans ev14
        have e47 : zI s46 into 3 = 1 := zput_at hus46
        refine lv_aload_n hx hb dX3_readSetting_72 rfl (lv_at hl 2 rfl) ?_
        refine va_get (D := κ.1) (ci := 0) (v := .int (zI s46 into 3)) (C := RX0) (T := TX0) (N := 7) hx hb hg inX0 hown hK (hT.o5 (hT.k t_into (by decide))).one 0 rfl rfl 3 (by decide) (hg _ k167) (fun _ h9 => h9) rfl dX3_readSetting_73 ?_
        rw [e47]
        refine lv_iconst (v := (-1)) hx hb dX3_readSetting_76 (by decide) ?_
        refine lv_icmp_ne (tgt := 88) hx hb dX3_readSetting_77 (by decide) (fun _ => ?_) (fun c9 => absurd c9 (by decide))
        refine lv_aload_n hx hb dX3_readSetting_88 rfl (lv_at hl 0 rfl) ?_
        have hTo := hT
        refine tVi (n := 0) (As := []) (rest := []) hx hb hml hown hg hT hK hX (X3s_pass l κ s46 this  (hT.k t_this (by decide)) (h0.tr (funext fun k => by rw [erB]; exact hT.eI trB (by decide) rfl rfl) (hT.eI t_this (by decide) rfl rfl)) (show (zI s46 this 6).toInt = (utkE tc Ln sp : Nat) from by rw [(show zI s46 this 6 = v12 from ev12)]; omega) (utkE_le tk158)) sub_fP_fPs (mwV k697 k699 k17 k85 k700) ⟨rfl, by decide, by decide, by decide +kernel⟩ ⟨(Nat.le_of_ble_eq_true rfl), (Nat.le_of_ble_eq_true rfl)⟩ (hT.o6 (hT.k t_this (by decide))) rfl rfl hl.1 rfl (Nat.le_of_ble_eq_true rfl) dX3_readSetting_89 zroom.rf (fun x48 s49 H locs hφ hEs49 hT => ?_)
        have ev1 : zI s49 this 2 = v1 := ((hTo.k t_this (by decide)).eI hEs49 (by decide) rfl).trans ev1
        have ev2 : zI s49 this 3 = v2 := ((hTo.k t_this (by decide)).eI hEs49 (by decide) rfl).trans ev2
        have ev4 : zI s49 into 4 = v4 := ((hTo.k t_into (by decide)).eI hEs49 (by decide) rfl).trans ev4
        have ev5 : zI s49 into 5 = v5 := ((hTo.k t_into (by decide)).eI hEs49 (by decide) rfl).trans ev5
        have ev7 : zI s49 into 6 = v7 := ((hTo.k t_into (by decide)).eI hEs49 (by decide) rfl).trans ev7
        have e47 : zI s49 into 3 = 1 := ((hTo.k t_into (by decide)).eI hEs49 (by decide) rfl).trans e47
        obtain ⟨f50, f51, f52⟩ := hφ
        subst hQ9
        exact t_z hx hb hr f52 hlocks hT ⟨Or.inl ⟨by omega, ⟨1, Or.inl ⟨rfl, 5, by decide, by decide, ⟨by decide, (f23.resolve_right (fun q9 => by have := q9.1; omega)).2⟩, by decide⟩, (show GSc s49 into (fun j => if j = 0 then 1 else gg j) from ⟨by rw [(show zI s49 into 3 = 1 from e47)]; exact (show _ = (1 : Int) from by omega), by rw [(show zI s49 into 4 = v4 from ev4)]; exact gs8.2.1, by rw [(show zI s49 into 5 = v5 from ev5)]; exact gs8.2.2.1, by rw [(show zI s49 into 6 = v7 from ev7)]; exact gs8.2.2.2⟩)⟩, f51, ((show zI s49 this 2 = v1 from ev1).trans zthis2.symm), ((show zI s49 this 3 = v2 from ev2).trans zthis3.symm)⟩, f52⟩ dX3_readSetting_92
    · have c6 := gi_ne c9
      refine lv_iconst (v := 0) hx hb dX3_readSetting_38 (by decide) ?_
      refine lv_goto (tgt := 69) hx hb dX3_readSetting_39 (by decide) ?_
      have hTo := hT
      refine pf5_3 hx hb hg hown hK hT (hT.k t_into (by decide)) rfl (hg _ k167) dX3_readSetting_69 (fun H locs s53 hus53 hT => ?_)
      have ev1 : zI s53 this 2 = v1 := (zput_o hus53 (Or.inr (by decide))).trans ev1
      have ev2 : zI s53 this 3 = v2 := (zput_o hus53 (Or.inl ((hTo.k t_this (by decide)).ne (hTo.k t_into (by decide)) (by decide)))).trans ev2
      have ev4 : zI s53 into 4 = v4 := (zput_o hus53 (Or.inr (by decide))).trans ev4
      have ev5 : zI s53 into 5 = v5 := (zput_o hus53 (Or.inr (by decide))).trans ev5
      have ev7 : zI s53 into 6 = v7 := (zput_o hus53 (Or.inr (by decide))).trans ev7
      have ev9 : zI s53 this 4 = v9 := (zput_o hus53 (Or.inr (by decide))).trans ev9
      have ev10 : zI s53 this 5 = v10 := (zput_o hus53 (Or.inr (by decide))).trans ev10
      have ev12 : zI s53 this 6 = v12 := (zput_o hus53 (Or.inr (by decide))).trans ev12
      have ev14 : zI s53 this 7 = v14 := (zput_o hus53 (Or.inr (by decide))).trans ev14
      have e54 : zI s53 into 3 = 0 := zput_at hus53
      refine lv_aload_n hx hb dX3_readSetting_72 rfl (lv_at hl 2 rfl) ?_
      refine va_get (D := κ.1) (ci := 0) (v := .int (zI s53 into 3)) (C := RX0) (T := TX0) (N := 7) hx hb hg inX0 hown hK (hT.o5 (hT.k t_into (by decide))).one 0 rfl rfl 3 (by decide) (hg _ k167) (fun _ h9 => h9) rfl dX3_readSetting_73 ?_
      rw [e54]
      refine lv_iconst (v := (-1)) hx hb dX3_readSetting_76 (by decide) ?_
      refine lv_icmp_ne (tgt := 88) hx hb dX3_readSetting_77 (by decide) (fun _ => ?_) (fun c9 => absurd c9 (by decide))
      refine lv_aload_n hx hb dX3_readSetting_88 rfl (lv_at hl 0 rfl) ?_
      have hTo := hT
      refine tVi (n := 0) (As := []) (rest := []) hx hb hml hown hg hT hK hX (X3s_pass l κ s53 this  (hT.k t_this (by decide)) (h0.tr (funext fun k => by rw [erB]; exact hT.eI trB (by decide) rfl rfl) (hT.eI t_this (by decide) rfl rfl)) (show (zI s53 this 6).toInt = (utkE tc Ln sp : Nat) from by rw [(show zI s53 this 6 = v12 from ev12)]; omega) (utkE_le tk158)) sub_fP_fPs (mwV k697 k699 k17 k85 k700) ⟨rfl, by decide, by decide, by decide +kernel⟩ ⟨(Nat.le_of_ble_eq_true rfl), (Nat.le_of_ble_eq_true rfl)⟩ (hT.o6 (hT.k t_this (by decide))) rfl rfl hl.1 rfl (Nat.le_of_ble_eq_true rfl) dX3_readSetting_89 zroom.rf (fun x55 s56 H locs hφ hEs56 hT => ?_)
      have ev1 : zI s56 this 2 = v1 := ((hTo.k t_this (by decide)).eI hEs56 (by decide) rfl).trans ev1
      have ev2 : zI s56 this 3 = v2 := ((hTo.k t_this (by decide)).eI hEs56 (by decide) rfl).trans ev2
      have ev4 : zI s56 into 4 = v4 := ((hTo.k t_into (by decide)).eI hEs56 (by decide) rfl).trans ev4
      have ev5 : zI s56 into 5 = v5 := ((hTo.k t_into (by decide)).eI hEs56 (by decide) rfl).trans ev5
      have ev7 : zI s56 into 6 = v7 := ((hTo.k t_into (by decide)).eI hEs56 (by decide) rfl).trans ev7
      have e54 : zI s56 into 3 = 0 := ((hTo.k t_into (by decide)).eI hEs56 (by decide) rfl).trans e54
      obtain ⟨f57, f58, f59⟩ := hφ
      subst hQ9
      exact t_z hx hb hr f59 hlocks hT ⟨Or.inl ⟨by omega, ⟨0, Or.inl ⟨rfl, 4, by decide, by decide, ⟨by decide, (f19.resolve_right (fun q9 => by have := q9.1; omega)).2⟩, by decide⟩, (show GSc s56 into (fun j => if j = 0 then 0 else gg j) from ⟨by rw [(show zI s56 into 3 = 0 from e54)]; exact (show _ = (0 : Int) from by omega), by rw [(show zI s56 into 4 = v4 from ev4)]; exact gs8.2.1, by rw [(show zI s56 into 5 = v5 from ev5)]; exact gs8.2.2.1, by rw [(show zI s56 into 6 = v7 from ev7)]; exact gs8.2.2.2⟩)⟩, f58, ((show zI s56 this 2 = v1 from ev1).trans zthis2.symm), ((show zI s56 this 3 = v2 from ev2).trans zthis3.symm)⟩, f59⟩ dX3_readSetting_92
  · have q16i := gi_ne q16
    by_cases q60 : st = 1
    · have q60i := gi_eq q60
      refine lv_tableIn (off := 92) (tgt := 93) hx hb dX3_readSetting_1 (by rw [q60]; decide) (by rw [q60]; decide) (by rw [q60]; decide) (by decide) ?_
      obtain rfl : i = 1 := by omega
      refine lv_aload_n hx hb dX3_readSetting_93 rfl (lv_at hl 2 rfl) ?_
      refine lv_aload_n hx hb dX3_readSetting_94 rfl (lv_at hl 0 rfl) ?_
      refine va_ldcS hx hb hown (hX.2.2.1 7 (by decide)) dX3_readSetting_95 ?_
      have hTo := hT
      refine tVi (n := 1) (As := [.ref (kK κ 7)]) (rest := [.ref into]) hx hb hml hown hg hT hK hX (X3s_isWord l κ σ0 this 7  (hT.k t_this (by decide)) (by decide) h0 (show TKc σ0 this tc Ln sp from by unfold TKc; rw [(show zI σ0 this 4 = v9 from ev9), (show zI σ0 this 5 = v10 from ev10), (show zI σ0 this 6 = v12 from ev12), (show zI σ0 this 7 = v14 from ev14)]; exact tk15)) sub_fE_fPs (mwV k724 k726 k22 k85 k727) ⟨rfl, by decide, by decide, by decide +kernel⟩ ⟨(Nat.le_of_ble_eq_true rfl), (Nat.le_of_ble_eq_true rfl)⟩ (hT.o6 (hT.k t_this (by decide))) rfl rfl hl.1 rfl (Nat.le_of_ble_eq_true rfl) dX3_readSetting_97 zroom.rf (fun x61 s62 H locs hφ hEs62 hT => ?_)
      have ev1 : zI s62 this 2 = v1 := ((hTo.k t_this (by decide)).eI hEs62 (by decide) rfl).trans ev1
      have ev2 : zI s62 this 3 = v2 := ((hTo.k t_this (by decide)).eI hEs62 (by decide) rfl).trans ev2
      have ev3 : zI s62 into 3 = v3 := ((hTo.k t_into (by decide)).eI hEs62 (by decide) rfl).trans ev3
      have ev4 : zI s62 into 4 = v4 := ((hTo.k t_into (by decide)).eI hEs62 (by decide) rfl).trans ev4
      have ev5 : zI s62 into 5 = v5 := ((hTo.k t_into (by decide)).eI hEs62 (by decide) rfl).trans ev5
      have ev7 : zI s62 into 6 = v7 := ((hTo.k t_into (by decide)).eI hEs62 (by decide) rfl).trans ev7
      have ev9 : zI s62 this 4 = v9 := ((hTo.k t_this (by decide)).eI hEs62 (by decide) rfl).trans ev9
      have ev10 : zI s62 this 5 = v10 := ((hTo.k t_this (by decide)).eI hEs62 (by decide) rfl).trans ev10
      have ev12 : zI s62 this 6 = v12 := ((hTo.k t_this (by decide)).eI hEs62 (by decide) rfl).trans ev12
      have ev14 : zI s62 this 7 = v14 := ((hTo.k t_this (by decide)).eI hEs62 (by decide) rfl).trans ev14
      obtain ⟨f63, f64⟩ := hφ
      refine lv_if_eq (tgt := 107) hx hb dX3_readSetting_100 (by decide) (fun c9 => ?_) (fun c9 => ?_)
      · have c7 := gi_eq c9
        refine lv_aload_n hx hb dX3_readSetting_107 rfl (lv_at hl 0 rfl) ?_
        refine va_ldcS hx hb hown (hX.2.2.1 8 (by decide)) dX3_readSetting_108 ?_
        have hTo := hT
        refine tVi (n := 1) (As := [.ref (kK κ 8)]) (rest := [.ref into]) hx hb hml hown hg hT hK hX (X3s_isWord l κ s62 this 8  (hT.k t_this (by decide)) (by decide) (h0.tr (funext fun k => by rw [erB]; exact hT.eI trB (by decide) rfl rfl) (hT.eI t_this (by decide) rfl rfl)) (show TKc s62 this tc Ln sp from by unfold TKc; rw [(show zI s62 this 4 = v9 from ev9), (show zI s62 this 5 = v10 from ev10), (show zI s62 this 6 = v12 from ev12), (show zI s62 this 7 = v14 from ev14)]; exact tk15)) sub_fE_fPs (mwV k724 k726 k22 k85 k727) ⟨rfl, by decide, by decide, by decide +kernel⟩ ⟨(Nat.le_of_ble_eq_true rfl), (Nat.le_of_ble_eq_true rfl)⟩ (hT.o6 (hT.k t_this (by decide))) rfl rfl hl.1 rfl (Nat.le_of_ble_eq_true rfl) dX3_readSetting_110 zroom.rf (fun x65 s66 H locs hφ hEs66 hT => ?_)
        have ev1 : zI s66 this 2 = v1 := ((hTo.k t_this (by decide)).eI hEs66 (by decide) rfl).trans ev1
        have ev2 : zI s66 this 3 = v2 := ((hTo.k t_this (by decide)).eI hEs66 (by decide) rfl).trans ev2
        have ev3 : zI s66 into 3 = v3 := ((hTo.k t_into (by decide)).eI hEs66 (by decide) rfl).trans ev3
        have ev4 : zI s66 into 4 = v4 := ((hTo.k t_into (by decide)).eI hEs66 (by decide) rfl).trans ev4
        have ev5 : zI s66 into 5 = v5 := ((hTo.k t_into (by decide)).eI hEs66 (by decide) rfl).trans ev5
        have ev7 : zI s66 into 6 = v7 := ((hTo.k t_into (by decide)).eI hEs66 (by decide) rfl).trans ev7
        have ev9 : zI s66 this 4 = v9 := ((hTo.k t_this (by decide)).eI hEs66 (by decide) rfl).trans ev9
        have ev10 : zI s66 this 5 = v10 := ((hTo.k t_this (by decide)).eI hEs66 (by decide) rfl).trans ev10
        have ev12 : zI s66 this 6 = v12 := ((hTo.k t_this (by decide)).eI hEs66 (by decide) rfl).trans ev12
        have ev14 : zI s66 this 7 = v14 := ((hTo.k t_this (by decide)).eI hEs66 (by decide) rfl).trans ev14
        obtain ⟨f67, f68⟩ := hφ
        refine lv_if_eq (tgt := 120) hx hb dX3_readSetting_113 (by decide) (fun c9 => ?_) (fun c9 => ?_)
        · have c8 := gi_eq c9
          refine lv_aload_n hx hb dX3_readSetting_120 rfl (lv_at hl 0 rfl) ?_
          refine va_ldcS hx hb hown (hX.2.2.1 9 (by decide)) dX3_readSetting_121 ?_
          have hTo := hT
          refine tVi (n := 1) (As := [.ref (kK κ 9)]) (rest := [.ref into]) hx hb hml hown hg hT hK hX (X3s_isWord l κ s66 this 9  (hT.k t_this (by decide)) (by decide) (h0.tr (funext fun k => by rw [erB]; exact hT.eI trB (by decide) rfl rfl) (hT.eI t_this (by decide) rfl rfl)) (show TKc s66 this tc Ln sp from by unfold TKc; rw [(show zI s66 this 4 = v9 from ev9), (show zI s66 this 5 = v10 from ev10), (show zI s66 this 6 = v12 from ev12), (show zI s66 this 7 = v14 from ev14)]; exact tk15)) sub_fE_fPs (mwV k724 k726 k22 k85 k727) ⟨rfl, by decide, by decide, by decide +kernel⟩ ⟨(Nat.le_of_ble_eq_true rfl), (Nat.le_of_ble_eq_true rfl)⟩ (hT.o6 (hT.k t_this (by decide))) rfl rfl hl.1 rfl (Nat.le_of_ble_eq_true rfl) dX3_readSetting_123 zroom.rf (fun x69 s70 H locs hφ hEs70 hT => ?_)
          have ev1 : zI s70 this 2 = v1 := ((hTo.k t_this (by decide)).eI hEs70 (by decide) rfl).trans ev1
          have ev2 : zI s70 this 3 = v2 := ((hTo.k t_this (by decide)).eI hEs70 (by decide) rfl).trans ev2
          have ev3 : zI s70 into 3 = v3 := ((hTo.k t_into (by decide)).eI hEs70 (by decide) rfl).trans ev3
          have ev4 : zI s70 into 4 = v4 := ((hTo.k t_into (by decide)).eI hEs70 (by decide) rfl).trans ev4
          have ev5 : zI s70 into 5 = v5 := ((hTo.k t_into (by decide)).eI hEs70 (by decide) rfl).trans ev5
          have ev7 : zI s70 into 6 = v7 := ((hTo.k t_into (by decide)).eI hEs70 (by decide) rfl).trans ev7
          have ev9 : zI s70 this 4 = v9 := ((hTo.k t_this (by decide)).eI hEs70 (by decide) rfl).trans ev9
          have ev10 : zI s70 this 5 = v10 := ((hTo.k t_this (by decide)).eI hEs70 (by decide) rfl).trans ev10
          have ev12 : zI s70 this 6 = v12 := ((hTo.k t_this (by decide)).eI hEs70 (by decide) rfl).trans ev12
          have ev14 : zI s70 this 7 = v14 := ((hTo.k t_this (by decide)).eI hEs70 (by decide) rfl).trans ev14
          obtain ⟨f71, f72⟩ := hφ
          refine lv_if_eq (tgt := 133) hx hb dX3_readSetting_126 (by decide) (fun c9 => ?_) (fun c9 => ?_)
          · have c9 := gi_eq c9
            refine lv_iconst (v := (-1)) hx hb dX3_readSetting_133 (by decide) ?_
            have hTo := hT
            refine pf5_4 hx hb hg hown hK hT (hT.k t_into (by decide)) rfl (hg _ k170) dX3_readSetting_134 (fun H locs s73 hus73 hT => ?_)
            have ev1 : zI s73 this 2 = v1 := (zput_o hus73 (Or.inr (by decide))).trans ev1
            have ev2 : zI s73 this 3 = v2 := (zput_o hus73 (Or.inr (by decide))).trans ev2
            have ev3 : zI s73 into 3 = v3 := (zput_o hus73 (Or.inr (by decide))).trans ev3
            have ev5 : zI s73 into 5 = v5 := (zput_o hus73 (Or.inr (by decide))).trans ev5
            have ev7 : zI s73 into 6 = v7 := (zput_o hus73 (Or.inr (by decide))).trans ev7
            have ev9 : zI s73 this 4 = v9 := (zput_o hus73 (Or.inl ((hTo.k t_this (by decide)).ne (hTo.k t_into (by decide)) (by decide)))).trans ev9
            have ev10 : zI s73 this 5 = v10 := (zput_o hus73 (Or.inr (by decide))).trans ev10
            have ev12 : zI s73 this 6 = v12 := (zput_o hus73 (Or.inr (by decide))).trans ev12
            have ev14 : zI s73 this 7 = v14 := (zput_o hus73 (Or.inr (by decide))).trans ev14
            have e74 : zI s73 into 4 = (-1) := zput_at hus73
            refine lv_aload_n hx hb dX3_readSetting_137 rfl (lv_at hl 2 rfl) ?_
            refine va_get (D := κ.1) (ci := 0) (v := .int (zI s73 into 4)) (C := RX0) (T := TX0) (N := 7) hx hb hg inX0 hown hK (hT.o5 (hT.k t_into (by decide))).one 0 rfl rfl 4 (by decide) (hg _ k170) (fun _ h9 => h9) rfl dX3_readSetting_138 ?_
            rw [e74]
            refine lv_iconst (v := (-1)) hx hb dX3_readSetting_141 (by decide) ?_
            refine lv_icmp_ne (tgt := 153) hx hb dX3_readSetting_142 (by decide) (fun c9 => absurd (by decide) c9) (fun _ => ?_)
            refine lv_aload_n hx hb dX3_readSetting_145 rfl (lv_at hl 0 rfl) ?_
            refine lv_iconst (v := 1) hx hb dX3_readSetting_146 (by decide) ?_
            have cz75 : zI s73 this 5 = v10 := ev10
            have hTo := hT
            refine tVi (n := 1) (As := [.int 1]) (rest := []) hx hb hml hown hg hT hK hX (X3s_isWrong l κ s73 this 1  (hT.k t_this (by decide)) (h0.tr (funext fun k => by rw [erB]; exact hT.eI trB (by decide) rfl rfl) (hT.eI t_this (by decide) rfl rfl))) sub_fW23_fPs (mwV k779 k781 k23 k85 k782) ⟨rfl, by decide, by decide, by decide +kernel⟩ ⟨(Nat.le_of_ble_eq_true rfl), (Nat.le_of_ble_eq_true rfl)⟩ (hT.o6 (hT.k t_this (by decide))) rfl rfl hl.1 rfl (Nat.le_of_ble_eq_true rfl) dX3_readSetting_147 zroom.rf (fun x76 s77 H locs hφ hEs77 hT => ?_)
            have ev3 : zI s77 into 3 = v3 := ((hTo.k t_into (by decide)).eI hEs77 (by decide) rfl).trans ev3
            have ev5 : zI s77 into 5 = v5 := ((hTo.k t_into (by decide)).eI hEs77 (by decide) rfl).trans ev5
            have ev7 : zI s77 into 6 = v7 := ((hTo.k t_into (by decide)).eI hEs77 (by decide) rfl).trans ev7
            have ev9 : zI s77 this 4 = v9 := ((hTo.k t_this (by decide)).eI hEs77 (by decide) rfl).trans ev9
            have ev10 : zI s77 this 5 = v10 := ((hTo.k t_this (by decide)).eI hEs77 (by decide) rfl).trans ev10
            have ev12 : zI s77 this 6 = v12 := ((hTo.k t_this (by decide)).eI hEs77 (by decide) rfl).trans ev12
            have ev14 : zI s77 this 7 = v14 := ((hTo.k t_this (by decide)).eI hEs77 (by decide) rfl).trans ev14
            have e74 : zI s77 into 4 = (-1) := ((hTo.k t_into (by decide)).eI hEs77 (by decide) rfl).trans e74
            obtain ⟨f78, f79, f80, f81⟩ := hφ
            have wr82 : (zI s77 this 3).toInt = sp := by rw [f80, cz75]; omega
            refine lv_goto (tgt := 157) hx hb dX3_readSetting_150 (by decide) ?_
            subst hQ9
            exact t_z hx hb hr f81 hlocks hT ⟨Or.inr ⟨by omega, (fun v q9 => by rcases q9 with ⟨q8, q7⟩ | ⟨q8, q7⟩ | ⟨q8, q7⟩ | ⟨q8, q7⟩ <;> first | (exact absurd q8 (by decide)) | (obtain ⟨j, q1, q2, q5, -⟩ := q7; rcases (show j = 7 ∨ j = 8 ∨ j = 9 by omega) with rfl | rfl | rfl <;> first | exact (f63.resolve_left (fun q9 => by have := q9.1; omega)).2 q5.2 | exact (f67.resolve_left (fun q9 => by have := q9.1; omega)).2 q5.2 | exact (f71.resolve_left (fun q9 => by have := q9.1; omega)).2 q5.2)), ⟨1, Or.inr ⟨fun q9 => absurd q9.1 (by decide), rfl⟩, by omega⟩, wr82⟩, f81⟩ dX3_readSetting_157
          · have c10 := gi_ne c9
            refine lv_iconst (v := 2) hx hb dX3_readSetting_129 (by decide) ?_
            refine lv_goto (tgt := 134) hx hb dX3_readSetting_130 (by decide) ?_
            have hTo := hT
            refine pf5_4 hx hb hg hown hK hT (hT.k t_into (by decide)) rfl (hg _ k170) dX3_readSetting_134 (fun H locs s83 hus83 hT => ?_)
            have ev1 : zI s83 this 2 = v1 := (zput_o hus83 (Or.inr (by decide))).trans ev1
            have ev2 : zI s83 this 3 = v2 := (zput_o hus83 (Or.inr (by decide))).trans ev2
            have ev3 : zI s83 into 3 = v3 := (zput_o hus83 (Or.inr (by decide))).trans ev3
            have ev5 : zI s83 into 5 = v5 := (zput_o hus83 (Or.inr (by decide))).trans ev5
            have ev7 : zI s83 into 6 = v7 := (zput_o hus83 (Or.inr (by decide))).trans ev7
            have ev9 : zI s83 this 4 = v9 := (zput_o hus83 (Or.inl ((hTo.k t_this (by decide)).ne (hTo.k t_into (by decide)) (by decide)))).trans ev9
            have ev10 : zI s83 this 5 = v10 := (zput_o hus83 (Or.inr (by decide))).trans ev10
            have ev12 : zI s83 this 6 = v12 := (zput_o hus83 (Or.inr (by decide))).trans ev12
            have ev14 : zI s83 this 7 = v14 := (zput_o hus83 (Or.inr (by decide))).trans ev14
            have e84 : zI s83 into 4 = 2 := zput_at hus83
            refine lv_aload_n hx hb dX3_readSetting_137 rfl (lv_at hl 2 rfl) ?_
            refine va_get (D := κ.1) (ci := 0) (v := .int (zI s83 into 4)) (C := RX0) (T := TX0) (N := 7) hx hb hg inX0 hown hK (hT.o5 (hT.k t_into (by decide))).one 0 rfl rfl 4 (by decide) (hg _ k170) (fun _ h9 => h9) rfl dX3_readSetting_138 ?_
            rw [e84]
            refine lv_iconst (v := (-1)) hx hb dX3_readSetting_141 (by decide) ?_
            refine lv_icmp_ne (tgt := 153) hx hb dX3_readSetting_142 (by decide) (fun _ => ?_) (fun c9 => absurd c9 (by decide))
            refine lv_aload_n hx hb dX3_readSetting_153 rfl (lv_at hl 0 rfl) ?_
            have hTo := hT
            refine tVi (n := 0) (As := []) (rest := []) hx hb hml hown hg hT hK hX (X3s_pass l κ s83 this  (hT.k t_this (by decide)) (h0.tr (funext fun k => by rw [erB]; exact hT.eI trB (by decide) rfl rfl) (hT.eI t_this (by decide) rfl rfl)) (show (zI s83 this 6).toInt = (utkE tc Ln sp : Nat) from by rw [(show zI s83 this 6 = v12 from ev12)]; omega) (utkE_le tk158)) sub_fP_fPs (mwV k697 k699 k17 k85 k700) ⟨rfl, by decide, by decide, by decide +kernel⟩ ⟨(Nat.le_of_ble_eq_true rfl), (Nat.le_of_ble_eq_true rfl)⟩ (hT.o6 (hT.k t_this (by decide))) rfl rfl hl.1 rfl (Nat.le_of_ble_eq_true rfl) dX3_readSetting_154 zroom.rf (fun x85 s86 H locs hφ hEs86 hT => ?_)
            have ev1 : zI s86 this 2 = v1 := ((hTo.k t_this (by decide)).eI hEs86 (by decide) rfl).trans ev1
            have ev2 : zI s86 this 3 = v2 := ((hTo.k t_this (by decide)).eI hEs86 (by decide) rfl).trans ev2
            have ev3 : zI s86 into 3 = v3 := ((hTo.k t_into (by decide)).eI hEs86 (by decide) rfl).trans ev3
            have ev5 : zI s86 into 5 = v5 := ((hTo.k t_into (by decide)).eI hEs86 (by decide) rfl).trans ev5
            have ev7 : zI s86 into 6 = v7 := ((hTo.k t_into (by decide)).eI hEs86 (by decide) rfl).trans ev7
            have e84 : zI s86 into 4 = 2 := ((hTo.k t_into (by decide)).eI hEs86 (by decide) rfl).trans e84
            obtain ⟨f87, f88, f89⟩ := hφ
            subst hQ9
            exact t_z hx hb hr f89 hlocks hT ⟨Or.inl ⟨by omega, ⟨2, Or.inr (Or.inl ⟨rfl, 9, by decide, by decide, ⟨by decide, (f71.resolve_right (fun q9 => by have := q9.1; omega)).2⟩, by decide⟩), (show GSc s86 into (fun j => if j = 1 then 2 else gg j) from ⟨by rw [(show zI s86 into 3 = v3 from ev3)]; exact gs8.1, by rw [(show zI s86 into 4 = 2 from e84)]; exact (show _ = (2 : Int) from by omega), by rw [(show zI s86 into 5 = v5 from ev5)]; exact gs8.2.2.1, by rw [(show zI s86 into 6 = v7 from ev7)]; exact gs8.2.2.2⟩)⟩, f88, ((show zI s86 this 2 = v1 from ev1).trans zthis2.symm), ((show zI s86 this 3 = v2 from ev2).trans zthis3.symm)⟩, f89⟩ dX3_readSetting_157
        · have c11 := gi_ne c9
          refine lv_iconst (v := 1) hx hb dX3_readSetting_116 (by decide) ?_
          refine lv_goto (tgt := 134) hx hb dX3_readSetting_117 (by decide) ?_
          have hTo := hT
          refine pf5_4 hx hb hg hown hK hT (hT.k t_into (by decide)) rfl (hg _ k170) dX3_readSetting_134 (fun H locs s90 hus90 hT => ?_)
          have ev1 : zI s90 this 2 = v1 := (zput_o hus90 (Or.inr (by decide))).trans ev1
          have ev2 : zI s90 this 3 = v2 := (zput_o hus90 (Or.inr (by decide))).trans ev2
          have ev3 : zI s90 into 3 = v3 := (zput_o hus90 (Or.inr (by decide))).trans ev3
          have ev5 : zI s90 into 5 = v5 := (zput_o hus90 (Or.inr (by decide))).trans ev5
          have ev7 : zI s90 into 6 = v7 := (zput_o hus90 (Or.inr (by decide))).trans ev7
          have ev9 : zI s90 this 4 = v9 := (zput_o hus90 (Or.inl ((hTo.k t_this (by decide)).ne (hTo.k t_into (by decide)) (by decide)))).trans ev9
          have ev10 : zI s90 this 5 = v10 := (zput_o hus90 (Or.inr (by decide))).trans ev10
          have ev12 : zI s90 this 6 = v12 := (zput_o hus90 (Or.inr (by decide))).trans ev12
          have ev14 : zI s90 this 7 = v14 := (zput_o hus90 (Or.inr (by decide))).trans ev14
          have e91 : zI s90 into 4 = 1 := zput_at hus90
          refine lv_aload_n hx hb dX3_readSetting_137 rfl (lv_at hl 2 rfl) ?_
          refine va_get (D := κ.1) (ci := 0) (v := .int (zI s90 into 4)) (C := RX0) (T := TX0) (N := 7) hx hb hg inX0 hown hK (hT.o5 (hT.k t_into (by decide))).one 0 rfl rfl 4 (by decide) (hg _ k170) (fun _ h9 => h9) rfl dX3_readSetting_138 ?_
          rw [e91]
          refine lv_iconst (v := (-1)) hx hb dX3_readSetting_141 (by decide) ?_
          refine lv_icmp_ne (tgt := 153) hx hb dX3_readSetting_142 (by decide) (fun _ => ?_) (fun c9 => absurd c9 (by decide))
          refine lv_aload_n hx hb dX3_readSetting_153 rfl (lv_at hl 0 rfl) ?_
          have hTo := hT
          refine tVi (n := 0) (As := []) (rest := []) hx hb hml hown hg hT hK hX (X3s_pass l κ s90 this  (hT.k t_this (by decide)) (h0.tr (funext fun k => by rw [erB]; exact hT.eI trB (by decide) rfl rfl) (hT.eI t_this (by decide) rfl rfl)) (show (zI s90 this 6).toInt = (utkE tc Ln sp : Nat) from by rw [(show zI s90 this 6 = v12 from ev12)]; omega) (utkE_le tk158)) sub_fP_fPs (mwV k697 k699 k17 k85 k700) ⟨rfl, by decide, by decide, by decide +kernel⟩ ⟨(Nat.le_of_ble_eq_true rfl), (Nat.le_of_ble_eq_true rfl)⟩ (hT.o6 (hT.k t_this (by decide))) rfl rfl hl.1 rfl (Nat.le_of_ble_eq_true rfl) dX3_readSetting_154 zroom.rf (fun x92 s93 H locs hφ hEs93 hT => ?_)
          have ev1 : zI s93 this 2 = v1 := ((hTo.k t_this (by decide)).eI hEs93 (by decide) rfl).trans ev1
          have ev2 : zI s93 this 3 = v2 := ((hTo.k t_this (by decide)).eI hEs93 (by decide) rfl).trans ev2
          have ev3 : zI s93 into 3 = v3 := ((hTo.k t_into (by decide)).eI hEs93 (by decide) rfl).trans ev3
          have ev5 : zI s93 into 5 = v5 := ((hTo.k t_into (by decide)).eI hEs93 (by decide) rfl).trans ev5
          have ev7 : zI s93 into 6 = v7 := ((hTo.k t_into (by decide)).eI hEs93 (by decide) rfl).trans ev7
          have e91 : zI s93 into 4 = 1 := ((hTo.k t_into (by decide)).eI hEs93 (by decide) rfl).trans e91
          obtain ⟨f94, f95, f96⟩ := hφ
          subst hQ9
          exact t_z hx hb hr f96 hlocks hT ⟨Or.inl ⟨by omega, ⟨1, Or.inr (Or.inl ⟨rfl, 8, by decide, by decide, ⟨by decide, (f67.resolve_right (fun q9 => by have := q9.1; omega)).2⟩, by decide⟩), (show GSc s93 into (fun j => if j = 1 then 1 else gg j) from ⟨by rw [(show zI s93 into 3 = v3 from ev3)]; exact gs8.1, by rw [(show zI s93 into 4 = 1 from e91)]; exact (show _ = (1 : Int) from by omega), by rw [(show zI s93 into 5 = v5 from ev5)]; exact gs8.2.2.1, by rw [(show zI s93 into 6 = v7 from ev7)]; exact gs8.2.2.2⟩)⟩, f95, ((show zI s93 this 2 = v1 from ev1).trans zthis2.symm), ((show zI s93 this 3 = v2 from ev2).trans zthis3.symm)⟩, f96⟩ dX3_readSetting_157
      · have c12 := gi_ne c9
        refine lv_iconst (v := 0) hx hb dX3_readSetting_103 (by decide) ?_
        refine lv_goto (tgt := 134) hx hb dX3_readSetting_104 (by decide) ?_
        have hTo := hT
        refine pf5_4 hx hb hg hown hK hT (hT.k t_into (by decide)) rfl (hg _ k170) dX3_readSetting_134 (fun H locs s97 hus97 hT => ?_)
        have ev1 : zI s97 this 2 = v1 := (zput_o hus97 (Or.inr (by decide))).trans ev1
        have ev2 : zI s97 this 3 = v2 := (zput_o hus97 (Or.inr (by decide))).trans ev2
        have ev3 : zI s97 into 3 = v3 := (zput_o hus97 (Or.inr (by decide))).trans ev3
        have ev5 : zI s97 into 5 = v5 := (zput_o hus97 (Or.inr (by decide))).trans ev5
        have ev7 : zI s97 into 6 = v7 := (zput_o hus97 (Or.inr (by decide))).trans ev7
        have ev9 : zI s97 this 4 = v9 := (zput_o hus97 (Or.inl ((hTo.k t_this (by decide)).ne (hTo.k t_into (by decide)) (by decide)))).trans ev9
        have ev10 : zI s97 this 5 = v10 := (zput_o hus97 (Or.inr (by decide))).trans ev10
        have ev12 : zI s97 this 6 = v12 := (zput_o hus97 (Or.inr (by decide))).trans ev12
        have ev14 : zI s97 this 7 = v14 := (zput_o hus97 (Or.inr (by decide))).trans ev14
        have e98 : zI s97 into 4 = 0 := zput_at hus97
        refine lv_aload_n hx hb dX3_readSetting_137 rfl (lv_at hl 2 rfl) ?_
        refine va_get (D := κ.1) (ci := 0) (v := .int (zI s97 into 4)) (C := RX0) (T := TX0) (N := 7) hx hb hg inX0 hown hK (hT.o5 (hT.k t_into (by decide))).one 0 rfl rfl 4 (by decide) (hg _ k170) (fun _ h9 => h9) rfl dX3_readSetting_138 ?_
        rw [e98]
        refine lv_iconst (v := (-1)) hx hb dX3_readSetting_141 (by decide) ?_
        refine lv_icmp_ne (tgt := 153) hx hb dX3_readSetting_142 (by decide) (fun _ => ?_) (fun c9 => absurd c9 (by decide))
        refine lv_aload_n hx hb dX3_readSetting_153 rfl (lv_at hl 0 rfl) ?_
        have hTo := hT
        refine tVi (n := 0) (As := []) (rest := []) hx hb hml hown hg hT hK hX (X3s_pass l κ s97 this  (hT.k t_this (by decide)) (h0.tr (funext fun k => by rw [erB]; exact hT.eI trB (by decide) rfl rfl) (hT.eI t_this (by decide) rfl rfl)) (show (zI s97 this 6).toInt = (utkE tc Ln sp : Nat) from by rw [(show zI s97 this 6 = v12 from ev12)]; omega) (utkE_le tk158)) sub_fP_fPs (mwV k697 k699 k17 k85 k700) ⟨rfl, by decide, by decide, by decide +kernel⟩ ⟨(Nat.le_of_ble_eq_true rfl), (Nat.le_of_ble_eq_true rfl)⟩ (hT.o6 (hT.k t_this (by decide))) rfl rfl hl.1 rfl (Nat.le_of_ble_eq_true rfl) dX3_readSetting_154 zroom.rf (fun x99 s100 H locs hφ hEs100 hT => ?_)
        have ev1 : zI s100 this 2 = v1 := ((hTo.k t_this (by decide)).eI hEs100 (by decide) rfl).trans ev1
        have ev2 : zI s100 this 3 = v2 := ((hTo.k t_this (by decide)).eI hEs100 (by decide) rfl).trans ev2
        have ev3 : zI s100 into 3 = v3 := ((hTo.k t_into (by decide)).eI hEs100 (by decide) rfl).trans ev3
        have ev5 : zI s100 into 5 = v5 := ((hTo.k t_into (by decide)).eI hEs100 (by decide) rfl).trans ev5
        have ev7 : zI s100 into 6 = v7 := ((hTo.k t_into (by decide)).eI hEs100 (by decide) rfl).trans ev7
        have e98 : zI s100 into 4 = 0 := ((hTo.k t_into (by decide)).eI hEs100 (by decide) rfl).trans e98
        obtain ⟨f101, f102, f103⟩ := hφ
        subst hQ9
        exact t_z hx hb hr f103 hlocks hT ⟨Or.inl ⟨by omega, ⟨0, Or.inr (Or.inl ⟨rfl, 7, by decide, by decide, ⟨by decide, (f63.resolve_right (fun q9 => by have := q9.1; omega)).2⟩, by decide⟩), (show GSc s100 into (fun j => if j = 1 then 0 else gg j) from ⟨by rw [(show zI s100 into 3 = v3 from ev3)]; exact gs8.1, by rw [(show zI s100 into 4 = 0 from e98)]; exact (show _ = (0 : Int) from by omega), by rw [(show zI s100 into 5 = v5 from ev5)]; exact gs8.2.2.1, by rw [(show zI s100 into 6 = v7 from ev7)]; exact gs8.2.2.2⟩)⟩, f102, ((show zI s100 this 2 = v1 from ev1).trans zthis2.symm), ((show zI s100 this 3 = v2 from ev2).trans zthis3.symm)⟩, f103⟩ dX3_readSetting_157
    · have q60i := gi_ne q60
      by_cases q104 : st = 2
      · have q104i := gi_eq q104
        refine lv_tableIn (off := 157) (tgt := 158) hx hb dX3_readSetting_1 (by rw [q104]; decide) (by rw [q104]; decide) (by rw [q104]; decide) (by decide) ?_
        obtain rfl : i = 2 := by omega
        refine lv_aload_n hx hb dX3_readSetting_158 rfl (lv_at hl 2 rfl) ?_
        refine lv_aload_n hx hb dX3_readSetting_159 rfl (lv_at hl 0 rfl) ?_
        refine va_ldcS hx hb hown (hX.2.2.1 10 (by decide)) dX3_readSetting_160 ?_
        have hTo := hT
        refine tVi (n := 1) (As := [.ref (kK κ 10)]) (rest := [.ref into]) hx hb hml hown hg hT hK hX (X3s_isWord l κ σ0 this 10  (hT.k t_this (by decide)) (by decide) h0 (show TKc σ0 this tc Ln sp from by unfold TKc; rw [(show zI σ0 this 4 = v9 from ev9), (show zI σ0 this 5 = v10 from ev10), (show zI σ0 this 6 = v12 from ev12), (show zI σ0 this 7 = v14 from ev14)]; exact tk15)) sub_fE_fPs (mwV k724 k726 k22 k85 k727) ⟨rfl, by decide, by decide, by decide +kernel⟩ ⟨(Nat.le_of_ble_eq_true rfl), (Nat.le_of_ble_eq_true rfl)⟩ (hT.o6 (hT.k t_this (by decide))) rfl rfl hl.1 rfl (Nat.le_of_ble_eq_true rfl) dX3_readSetting_162 zroom.rf (fun x105 s106 H locs hφ hEs106 hT => ?_)
        have ev1 : zI s106 this 2 = v1 := ((hTo.k t_this (by decide)).eI hEs106 (by decide) rfl).trans ev1
        have ev2 : zI s106 this 3 = v2 := ((hTo.k t_this (by decide)).eI hEs106 (by decide) rfl).trans ev2
        have ev3 : zI s106 into 3 = v3 := ((hTo.k t_into (by decide)).eI hEs106 (by decide) rfl).trans ev3
        have ev4 : zI s106 into 4 = v4 := ((hTo.k t_into (by decide)).eI hEs106 (by decide) rfl).trans ev4
        have ev5 : zI s106 into 5 = v5 := ((hTo.k t_into (by decide)).eI hEs106 (by decide) rfl).trans ev5
        have ev7 : zI s106 into 6 = v7 := ((hTo.k t_into (by decide)).eI hEs106 (by decide) rfl).trans ev7
        have ev9 : zI s106 this 4 = v9 := ((hTo.k t_this (by decide)).eI hEs106 (by decide) rfl).trans ev9
        have ev10 : zI s106 this 5 = v10 := ((hTo.k t_this (by decide)).eI hEs106 (by decide) rfl).trans ev10
        have ev12 : zI s106 this 6 = v12 := ((hTo.k t_this (by decide)).eI hEs106 (by decide) rfl).trans ev12
        have ev14 : zI s106 this 7 = v14 := ((hTo.k t_this (by decide)).eI hEs106 (by decide) rfl).trans ev14
        obtain ⟨f107, f108⟩ := hφ
        have hTo := hT
        refine pf5_5 hx hb hg hown hK hT (hT.k t_into (by decide)) rfl f108 (hg _ k173) dX3_readSetting_165 (fun H locs s109 hus109 hT => ?_)
        have ev1 : zI s109 this 2 = v1 := (zput_o hus109 (Or.inr (by decide))).trans ev1
        have ev2 : zI s109 this 3 = v2 := (zput_o hus109 (Or.inr (by decide))).trans ev2
        have ev3 : zI s109 into 3 = v3 := (zput_o hus109 (Or.inr (by decide))).trans ev3
        have ev4 : zI s109 into 4 = v4 := (zput_o hus109 (Or.inr (by decide))).trans ev4
        have ev7 : zI s109 into 6 = v7 := (zput_o hus109 (Or.inr (by decide))).trans ev7
        have ev9 : zI s109 this 4 = v9 := (zput_o hus109 (Or.inr (by decide))).trans ev9
        have ev10 : zI s109 this 5 = v10 := (zput_o hus109 (Or.inl ((hTo.k t_this (by decide)).ne (hTo.k t_into (by decide)) (by decide)))).trans ev10
        have ev12 : zI s109 this 6 = v12 := (zput_o hus109 (Or.inr (by decide))).trans ev12
        have ev14 : zI s109 this 7 = v14 := (zput_o hus109 (Or.inr (by decide))).trans ev14
        have e110 : zI s109 into 5 = x105 := zput_at hus109
        refine lv_aload_n hx hb dX3_readSetting_168 rfl (lv_at hl 2 rfl) ?_
        refine va_get (D := κ.1) (ci := 0) (v := .int (zI s109 into 5)) (C := RX0) (T := TX0) (N := 7) hx hb hg inX0 hown hK (hT.o5 (hT.k t_into (by decide))).one 0 rfl rfl 5 (by decide) (hg _ k173) (fun _ h9 => h9) rfl dX3_readSetting_169 ?_
        rw [e110]
        refine lv_if_ne (tgt := 184) hx hb dX3_readSetting_172 (by decide) (fun c9 => ?_) (fun c9 => ?_)
        · have c13 := gi_ne c9
          refine lv_aload_n hx hb dX3_readSetting_184 rfl (lv_at hl 0 rfl) ?_
          have hTo := hT
          refine tVi (n := 0) (As := []) (rest := []) hx hb hml hown hg hT hK hX (X3s_pass l κ s109 this  (hT.k t_this (by decide)) (h0.tr (funext fun k => by rw [erB]; exact hT.eI trB (by decide) rfl rfl) (hT.eI t_this (by decide) rfl rfl)) (show (zI s109 this 6).toInt = (utkE tc Ln sp : Nat) from by rw [(show zI s109 this 6 = v12 from ev12)]; omega) (utkE_le tk158)) sub_fP_fPs (mwV k697 k699 k17 k85 k700) ⟨rfl, by decide, by decide, by decide +kernel⟩ ⟨(Nat.le_of_ble_eq_true rfl), (Nat.le_of_ble_eq_true rfl)⟩ (hT.o6 (hT.k t_this (by decide))) rfl rfl hl.1 rfl (Nat.le_of_ble_eq_true rfl) dX3_readSetting_185 zroom.rf (fun x111 s112 H locs hφ hEs112 hT => ?_)
          have ev1 : zI s112 this 2 = v1 := ((hTo.k t_this (by decide)).eI hEs112 (by decide) rfl).trans ev1
          have ev2 : zI s112 this 3 = v2 := ((hTo.k t_this (by decide)).eI hEs112 (by decide) rfl).trans ev2
          have ev3 : zI s112 into 3 = v3 := ((hTo.k t_into (by decide)).eI hEs112 (by decide) rfl).trans ev3
          have ev4 : zI s112 into 4 = v4 := ((hTo.k t_into (by decide)).eI hEs112 (by decide) rfl).trans ev4
          have ev7 : zI s112 into 6 = v7 := ((hTo.k t_into (by decide)).eI hEs112 (by decide) rfl).trans ev7
          have e110 : zI s112 into 5 = x105 := ((hTo.k t_into (by decide)).eI hEs112 (by decide) rfl).trans e110
          obtain ⟨f113, f114, f115⟩ := hφ
          refine lv_goto (tgt := 196) hx hb dX3_readSetting_188 (by decide) ?_
          subst hQ9
          exact t_z hx hb hr f115 hlocks hT ⟨Or.inl ⟨by omega, ⟨1, Or.inr (Or.inr (Or.inl ⟨rfl, 10, by decide, by decide, ⟨by decide, (f107.resolve_right (fun q9 => by have := q9.1; omega)).2⟩, by decide⟩)), (show GSc s112 into (fun j => if j = 2 then 1 else gg j) from ⟨by rw [(show zI s112 into 3 = v3 from ev3)]; exact gs8.1, by rw [(show zI s112 into 4 = v4 from ev4)]; exact gs8.2.1, by rw [(show zI s112 into 5 = x105 from e110)]; exact (show _ = (1 : Int) from by omega), by rw [(show zI s112 into 6 = v7 from ev7)]; exact gs8.2.2.2⟩)⟩, f114, ((show zI s112 this 2 = v1 from ev1).trans zthis2.symm), ((show zI s112 this 3 = v2 from ev2).trans zthis3.symm)⟩, f115⟩ dX3_readSetting_196
        · have c14 := gi_eq c9
          refine lv_aload_n hx hb dX3_readSetting_175 rfl (lv_at hl 0 rfl) ?_
          refine va_ldcS hx hb hown (hX.2.2.1 11 (by decide)) dX3_readSetting_176 ?_
          have hTo := hT
          refine tVi (n := 1) (As := [.ref (kK κ 11)]) (rest := []) hx hb hml hown hg hT hK hX (X3s_isWord l κ s109 this 11  (hT.k t_this (by decide)) (by decide) (h0.tr (funext fun k => by rw [erB]; exact hT.eI trB (by decide) rfl rfl) (hT.eI t_this (by decide) rfl rfl)) (show TKc s109 this tc Ln sp from by unfold TKc; rw [(show zI s109 this 4 = v9 from ev9), (show zI s109 this 5 = v10 from ev10), (show zI s109 this 6 = v12 from ev12), (show zI s109 this 7 = v14 from ev14)]; exact tk15)) sub_fE_fPs (mwV k724 k726 k22 k85 k727) ⟨rfl, by decide, by decide, by decide +kernel⟩ ⟨(Nat.le_of_ble_eq_true rfl), (Nat.le_of_ble_eq_true rfl)⟩ (hT.o6 (hT.k t_this (by decide))) rfl rfl hl.1 rfl (Nat.le_of_ble_eq_true rfl) dX3_readSetting_178 zroom.rf (fun x116 s117 H locs hφ hEs117 hT => ?_)
          have ev1 : zI s117 this 2 = v1 := ((hTo.k t_this (by decide)).eI hEs117 (by decide) rfl).trans ev1
          have ev2 : zI s117 this 3 = v2 := ((hTo.k t_this (by decide)).eI hEs117 (by decide) rfl).trans ev2
          have ev3 : zI s117 into 3 = v3 := ((hTo.k t_into (by decide)).eI hEs117 (by decide) rfl).trans ev3
          have ev4 : zI s117 into 4 = v4 := ((hTo.k t_into (by decide)).eI hEs117 (by decide) rfl).trans ev4
          have ev7 : zI s117 into 6 = v7 := ((hTo.k t_into (by decide)).eI hEs117 (by decide) rfl).trans ev7
          have ev9 : zI s117 this 4 = v9 := ((hTo.k t_this (by decide)).eI hEs117 (by decide) rfl).trans ev9
          have ev10 : zI s117 this 5 = v10 := ((hTo.k t_this (by decide)).eI hEs117 (by decide) rfl).trans ev10
          have ev12 : zI s117 this 6 = v12 := ((hTo.k t_this (by decide)).eI hEs117 (by decide) rfl).trans ev12
          have ev14 : zI s117 this 7 = v14 := ((hTo.k t_this (by decide)).eI hEs117 (by decide) rfl).trans ev14
          have e110 : zI s117 into 5 = x105 := ((hTo.k t_into (by decide)).eI hEs117 (by decide) rfl).trans e110
          obtain ⟨f118, f119⟩ := hφ
          refine lv_if_eq (tgt := 191) hx hb dX3_readSetting_181 (by decide) (fun c9 => ?_) (fun c9 => ?_)
          · have c15 := gi_eq c9
            refine lv_aload_n hx hb dX3_readSetting_191 rfl (lv_at hl 0 rfl) ?_
            refine lv_iconst (v := 1) hx hb dX3_readSetting_192 (by decide) ?_
            have cz120 : zI s117 this 5 = v10 := ev10
            have hTo := hT
            refine tVi (n := 1) (As := [.int 1]) (rest := []) hx hb hml hown hg hT hK hX (X3s_isWrong l κ s117 this 1  (hT.k t_this (by decide)) (h0.tr (funext fun k => by rw [erB]; exact hT.eI trB (by decide) rfl rfl) (hT.eI t_this (by decide) rfl rfl))) sub_fW23_fPs (mwV k779 k781 k23 k85 k782) ⟨rfl, by decide, by decide, by decide +kernel⟩ ⟨(Nat.le_of_ble_eq_true rfl), (Nat.le_of_ble_eq_true rfl)⟩ (hT.o6 (hT.k t_this (by decide))) rfl rfl hl.1 rfl (Nat.le_of_ble_eq_true rfl) dX3_readSetting_193 zroom.rf (fun x121 s122 H locs hφ hEs122 hT => ?_)
            have ev3 : zI s122 into 3 = v3 := ((hTo.k t_into (by decide)).eI hEs122 (by decide) rfl).trans ev3
            have ev4 : zI s122 into 4 = v4 := ((hTo.k t_into (by decide)).eI hEs122 (by decide) rfl).trans ev4
            have ev7 : zI s122 into 6 = v7 := ((hTo.k t_into (by decide)).eI hEs122 (by decide) rfl).trans ev7
            have ev9 : zI s122 this 4 = v9 := ((hTo.k t_this (by decide)).eI hEs122 (by decide) rfl).trans ev9
            have ev10 : zI s122 this 5 = v10 := ((hTo.k t_this (by decide)).eI hEs122 (by decide) rfl).trans ev10
            have ev12 : zI s122 this 6 = v12 := ((hTo.k t_this (by decide)).eI hEs122 (by decide) rfl).trans ev12
            have ev14 : zI s122 this 7 = v14 := ((hTo.k t_this (by decide)).eI hEs122 (by decide) rfl).trans ev14
            have e110 : zI s122 into 5 = x105 := ((hTo.k t_into (by decide)).eI hEs122 (by decide) rfl).trans e110
            obtain ⟨f123, f124, f125, f126⟩ := hφ
            have wr127 : (zI s122 this 3).toInt = sp := by rw [f125, cz120]; omega
            subst hQ9
            exact t_z hx hb hr f126 hlocks hT ⟨Or.inr ⟨by omega, (fun v q9 => by rcases q9 with ⟨q8, q7⟩ | ⟨q8, q7⟩ | ⟨q8, q7⟩ | ⟨q8, q7⟩ <;> first | (exact absurd q8 (by decide)) | (obtain ⟨j, q1, q2, q5, -⟩ := q7; rcases (show j = 10 ∨ j = 11 by omega) with rfl | rfl <;> first | exact (f107.resolve_left (fun q9 => by have := q9.1; omega)).2 q5.2 | exact (f118.resolve_left (fun q9 => by have := q9.1; omega)).2 q5.2)), ⟨1, Or.inr ⟨fun q9 => absurd q9.1 (by decide), rfl⟩, by omega⟩, wr127⟩, f126⟩ dX3_readSetting_196
          · have c16 := gi_ne c9
            refine lv_aload_n hx hb dX3_readSetting_184 rfl (lv_at hl 0 rfl) ?_
            have hTo := hT
            refine tVi (n := 0) (As := []) (rest := []) hx hb hml hown hg hT hK hX (X3s_pass l κ s117 this  (hT.k t_this (by decide)) (h0.tr (funext fun k => by rw [erB]; exact hT.eI trB (by decide) rfl rfl) (hT.eI t_this (by decide) rfl rfl)) (show (zI s117 this 6).toInt = (utkE tc Ln sp : Nat) from by rw [(show zI s117 this 6 = v12 from ev12)]; omega) (utkE_le tk158)) sub_fP_fPs (mwV k697 k699 k17 k85 k700) ⟨rfl, by decide, by decide, by decide +kernel⟩ ⟨(Nat.le_of_ble_eq_true rfl), (Nat.le_of_ble_eq_true rfl)⟩ (hT.o6 (hT.k t_this (by decide))) rfl rfl hl.1 rfl (Nat.le_of_ble_eq_true rfl) dX3_readSetting_185 zroom.rf (fun x128 s129 H locs hφ hEs129 hT => ?_)
            have ev1 : zI s129 this 2 = v1 := ((hTo.k t_this (by decide)).eI hEs129 (by decide) rfl).trans ev1
            have ev2 : zI s129 this 3 = v2 := ((hTo.k t_this (by decide)).eI hEs129 (by decide) rfl).trans ev2
            have ev3 : zI s129 into 3 = v3 := ((hTo.k t_into (by decide)).eI hEs129 (by decide) rfl).trans ev3
            have ev4 : zI s129 into 4 = v4 := ((hTo.k t_into (by decide)).eI hEs129 (by decide) rfl).trans ev4
            have ev7 : zI s129 into 6 = v7 := ((hTo.k t_into (by decide)).eI hEs129 (by decide) rfl).trans ev7
            have e110 : zI s129 into 5 = x105 := ((hTo.k t_into (by decide)).eI hEs129 (by decide) rfl).trans e110
            obtain ⟨f130, f131, f132⟩ := hφ
            refine lv_goto (tgt := 196) hx hb dX3_readSetting_188 (by decide) ?_
            subst hQ9
            exact t_z hx hb hr f132 hlocks hT ⟨Or.inl ⟨by omega, ⟨0, Or.inr (Or.inr (Or.inl ⟨rfl, 11, by decide, by decide, ⟨by decide, (f118.resolve_right (fun q9 => by have := q9.1; omega)).2⟩, by decide⟩)), (show GSc s129 into (fun j => if j = 2 then 0 else gg j) from ⟨by rw [(show zI s129 into 3 = v3 from ev3)]; exact gs8.1, by rw [(show zI s129 into 4 = v4 from ev4)]; exact gs8.2.1, by rw [(show zI s129 into 5 = x105 from e110)]; exact (show _ = (0 : Int) from by omega), by rw [(show zI s129 into 6 = v7 from ev7)]; exact gs8.2.2.2⟩)⟩, f131, ((show zI s129 this 2 = v1 from ev1).trans zthis2.symm), ((show zI s129 this 3 = v2 from ev2).trans zthis3.symm)⟩, f132⟩ dX3_readSetting_196
      · have q104i := gi_ne q104
        refine lv_tableOut (tgt := 197) hx hb dX3_readSetting_1 (by omega) (by decide) ?_
        obtain rfl : i = 3 := by omega
        refine lv_aload_n hx hb dX3_readSetting_197 rfl (lv_at hl 0 rfl) ?_
        refine lv_aload_n hx hb dX3_readSetting_198 rfl (lv_at hl 2 rfl) ?_
        have hTo := hT
        refine tVi (n := 1) (As := [.ref into]) (rest := []) hx hb hml hown hg hT hK hX (X3s_readLeast l κ σ0 this into  (hT.k t_this (by decide)) (hT.k t_into (by decide)) h0 (show TKc σ0 this tc Ln sp from by unfold TKc; rw [(show zI σ0 this 4 = v9 from ev9), (show zI σ0 this 5 = v10 from ev10), (show zI σ0 this 6 = v12 from ev12), (show zI σ0 this 7 = v14 from ev14)]; exact tk15) (show GSc σ0 into gg from ⟨by rw [(show zI σ0 into 3 = v3 from ev3)]; exact gs8.1, by rw [(show zI σ0 into 4 = v4 from ev4)]; exact gs8.2.1, by rw [(show zI σ0 into 5 = v5 from ev5)]; exact gs8.2.2.1, by rw [(show zI σ0 into 6 = v7 from ev7)]; exact gs8.2.2.2⟩)) (fun _ _ h => h) (mwV k795 k797 k25 k85 k798) ⟨rfl, by decide, by decide, by decide +kernel⟩ ⟨(Nat.le_of_ble_eq_true rfl), (Nat.le_of_ble_eq_true rfl)⟩ (hT.o6 (hT.k t_this (by decide))) rfl rfl hl.1 rfl (Nat.le_of_ble_eq_true rfl) dX3_readSetting_199 zroom.rf (fun x133 s134 H locs hφ hEs134 hT => ?_)
        obtain ⟨f135, f136⟩ := hφ
        subst hQ9
        exact t_z hx hb hr f136 hlocks hT ⟨f135, f136⟩ dX3_readSetting_202
set_option maxHeartbeats 4000000 in
set_option maxRecDepth 100000 in
theorem X3s_readSettings (l : Launch) (κ : Kt) (σ0 : Gh) (this : Nat) (into : Nat) {tc : Nat → Int} {Ln : Nat} {sp : Nat} {gg : Nat → Int} (t_this : zk σ0 this 6) (t_into : zk σ0 into 5) (h0 : TXc κ σ0 this tc Ln) (h1 : TKc σ0 this tc Ln sp) (h2 : GSc σ0 into gg) : TC l yX3_readSettings cX3_readSettings 5 (some .boolean) 6 129 [.ref this, .ref into] κ σ0 (tqi κ fPs σ0 (fun (r : Int32) (τ : Gh) => (∃ x : uRd, utrt tc Ln (false, sp, 0, -1, gg) x ∧ ((r.toInt = 1 ∧ ∃ (s9 : Nat) (g9 : Nat → Int), x = (true, s9, 0, -1, g9) ∧ TKc τ this tc Ln s9 ∧ GSc τ into g9 ∧ zI τ this 2 = zI σ0 this 2 ∧ zI τ this 3 = zI σ0 this 3) ∨ (r.toInt = 0 ∧ ∃ co po : Int, utfi tc Ln x co po ∧ co ≠ 0 ∧ (zI τ this 2).toInt = co ∧ (zI τ this 3).toInt = po))) ∧ (isB r))) := by
  refine TC.of fPs (by decide +kernel) (Nat.le_of_ble_eq_true rfl) ?_
  intro p e s m below meth c ls hcs hK hX hT hl
  obtain ⟨hx, hb, hr, hml, hown, hg, hlocks, hin⟩ := hcs
  have hown : s.vm.findClass RX3 = some m.cls := hown
  have hl : lv_has ls 5 [(0, .ref this), (1, .ref into)] := hl
  have hT0 := hT
  have nm1 : ((-1) : Int32).toInt = (-1) := by decide
  have n0 : (0 : Int32).toInt = 0 := by decide
  have n1 : (1 : Int32).toInt = 1 := by decide
  have n3 : (3 : Int32).toInt = 3 := by decide
  have n4 : (4 : Int32).toInt = 4 := by decide
  generalize hQ9 : tQ _ _ _ _ _ _ = Q9
  obtain ⟨rB, erB⟩ : ∃ z, kR κ this 0 = z := ⟨_, rfl⟩
  have trB : zk σ0 rB 14 := by rw [← erB]; exact hT0.ref t_this (by decide) (by decide) (by decide)
  have hpc : ∀ j, tc j = (zI σ0 rB j).toInt := by rw [← erB]; exact h0.1
  have hLn : (zI σ0 this 1).toInt = Ln := h0.2
  have bL := (hT0.P t_this (by decide)).1.2
  have hL7 : (Ln : Int) ≤ 700 := by omega
  refine lv_iconst (v := 0) hx hb dX3_readSettings_0 (by decide) ?_
  refine lv_istore_n (lv' := [(2, .int 0), (0, .ref this), (1, .ref into)]) hx hb dX3_readSettings_1 rfl hl (by decide) rfl (fun ls hl => ?_)
  refine lv_iconst (v := 0) hx hb dX3_readSettings_2 (by decide) ?_
  refine lv_istore_n (lv' := [(3, .int 0), (2, .int 0), (0, .ref this), (1, .ref into)]) hx hb dX3_readSettings_3 rfl hl (by decide) rfl (fun ls hl => ?_)
  have loop4 : ∀ (n9 : Nat) (sn : Int32) (j : Int32) (H : Heap) (locs : List Loc) (sg : Gh) (ls : Array Slot), TS κ fPs σ0 sg s H locs → (0 ≤ j.toInt) → (j.toInt ≤ 5) → (∃ (ss nb : Nat) (g : Nat → Int), TKc sg this tc Ln ss ∧ GSc sg into g ∧ utrt tc Ln (false, sp, 0, -1, gg) (false, ss, nb, -1, g) ∧ sn.toInt = nb ∧ nb < 16 ∧ j.toInt = pc4 nb ∧ zI sg this 2 = zI σ0 this 2 ∧ zI sg this 3 = zI σ0 this 3) → lv_has ls 5 [(2, .int sn), (3, .int j), (0, .ref this), (1, .ref into)] → (5 - j.toInt) < n9 → tW p l e 6 129 κ s m #[.ref this, .ref into] below meth c H locs Q9 (F0 m 4 ls []) := by
    intro n9
    induction n9 with
    | zero =>
      intro sn j H locs sg ls hT q1 q2 q3 hl hm9
      exfalso
      omega
    | succ n9 ih9 =>
      have ih4 := ih9
      clear ih9
      intro sn j H locs s1 ls hT q1 q2 q3 hl hm9
      obtain ⟨ss, nb, g, y1, y2, y3, y4, y5, y6, y7, y8⟩ := q3
      obtain ⟨v2, ev2⟩ : ∃ zz9 : Int32, zI s1 this 2 = zz9 := ⟨_, rfl⟩
      have qv2 : v2.toInt = (zI s1 this 2).toInt := by rw [ev2]
      have zthis2 : zI σ0 this 2 = v2 := y7.symm.trans ev2
      obtain ⟨v3, ev3⟩ : ∃ zz9 : Int32, zI s1 this 3 = zz9 := ⟨_, rfl⟩
      have qv3 : v3.toInt = (zI s1 this 3).toInt := by rw [ev3]
      have zthis3 : zI σ0 this 3 = v3 := y8.symm.trans ev3
      obtain ⟨v4, ev4⟩ : ∃ zz9 : Int32, zI s1 into 3 = zz9 := ⟨_, rfl⟩
      have qv4 : v4.toInt = (zI s1 into 3).toInt := by rw [ev4]
      obtain ⟨v5, ev5⟩ : ∃ zz9 : Int32, zI s1 into 4 = zz9 := ⟨_, rfl⟩
      have qv5 : v5.toInt = (zI s1 into 4).toInt := by rw [ev5]
      obtain ⟨v6, ev6⟩ : ∃ zz9 : Int32, zI s1 into 5 = zz9 := ⟨_, rfl⟩
      have qv6 : v6.toInt = (zI s1 into 5).toInt := by rw [ev6]
      have b7 : isB v6 := by have q9 := (hT.P (hT.k t_into (by decide)) (by decide)).2; rw [ev6] at q9; exact q9
      obtain ⟨v8, ev8⟩ : ∃ zz9 : Int32, zI s1 into 6 = zz9 := ⟨_, rfl⟩
      have qv8 : v8.toInt = (zI s1 into 6).toInt := by rw [ev8]
      have gs9 : v4.toInt = g 0 ∧ v5.toInt = g 1 ∧ v6.toInt = g 2 ∧ v8.toInt = g 3 := by have z9 := y2; unfold GSc at z9; rw [(show zI s1 into 3 = v4 from ev4), (show zI s1 into 4 = v5 from ev5), (show zI s1 into 5 = v6 from ev6), (show zI s1 into 6 = v8 from ev8)] at z9; exact z9
      obtain ⟨v10, ev10⟩ : ∃ zz9 : Int32, zI s1 this 4 = zz9 := ⟨_, rfl⟩
      have qv10 : v10.toInt = (zI s1 this 4).toInt := by rw [ev10]
      obtain ⟨v11, ev11⟩ : ∃ zz9 : Int32, zI s1 this 5 = zz9 := ⟨_, rfl⟩
      have qv11 : v11.toInt = (zI s1 this 5).toInt := by rw [ev11]
      have b12 := (hT.P (hT.k t_this (by decide)) (by decide)).2.1
      rw [ev11] at b12
      have b12l := b12.1
      have b12h := b12.2
      obtain ⟨v13, ev13⟩ : ∃ zz9 : Int32, zI s1 this 6 = zz9 := ⟨_, rfl⟩
      have qv13 : v13.toInt = (zI s1 this 6).toInt := by rw [ev13]
      have b14 := (hT.P (hT.k t_this (by decide)) (by decide)).2.2
      rw [ev13] at b14
      have b14l := b14.1
      have b14h := b14.2
      obtain ⟨v15, ev15⟩ : ∃ zz9 : Int32, zI s1 this 7 = zz9 := ⟨_, rfl⟩
      have qv15 : v15.toInt = (zI s1 this 7).toInt := by rw [ev15]
      have tk16 : TKv v10 v11 v13 v15 tc Ln ss := by have z9 := y1; unfold TKc at z9; rw [(show zI s1 this 4 = v10 from ev10), (show zI s1 this 5 = v11 from ev11), (show zI s1 this 6 = v13 from ev13), (show zI s1 this 7 = v15 from ev15)] at z9; exact z9
      obtain ⟨tk164, tk165, tk166, tk167, tk168⟩ := id tk16
      refine lv_iload_n hx hb dX3_readSettings_4 rfl (lv_at hl 1 rfl) ?_
      refine lv_iconst (v := 4) hx hb dX3_readSettings_5 (by decide) ?_
      refine lv_icmp_gt (tgt := 75) hx hb dX3_readSettings_6 (by decide) (fun c9 => ?_) (fun c9 => ?_)
      · have c1 := gi_lt c9
        refine lv_iconst (v := 1) hx hb dX3_readSettings_75 (by decide) ?_
        subst hQ9
        exact t_z hx hb hr isB1 hlocks hT (by exfalso; have z9 := pc4_le y5; omega) dX3_readSettings_76
      · have c2 := gi_nlt c9
        refine lv_aload_n hx hb dX3_readSettings_9 rfl (lv_at hl 2 rfl) ?_
        have hTo := hT
        refine tVi (n := 0) (As := []) (rest := []) hx hb hml hown hg hT hK hX (X3s_settingHere l κ s1 this  (hT.k t_this (by decide)) (h0.tr (funext fun k => by rw [erB]; exact hT.eI trB (by decide) rfl rfl) (hT.eI t_this (by decide) rfl rfl)) (show TKc s1 this tc Ln ss from by unfold TKc; rw [(show zI s1 this 4 = v10 from ev10), (show zI s1 this 5 = v11 from ev11), (show zI s1 this 6 = v13 from ev13), (show zI s1 this 7 = v15 from ev15)]; exact tk16)) sub_fE_fPs (mwV k719 k721 k21 k85 k722) ⟨rfl, by decide, by decide, by decide +kernel⟩ ⟨(Nat.le_of_ble_eq_true rfl), (Nat.le_of_ble_eq_true rfl)⟩ (hT.o6 (hT.k t_this (by decide))) rfl rfl hl.1 rfl (Nat.le_of_ble_eq_true rfl) dX3_readSettings_10 zroom.rf (fun x17 s18 H locs hφ hEs18 hT => ?_)
        have ev2 : zI s18 this 2 = v2 := ((hTo.k t_this (by decide)).eI hEs18 (by decide) rfl).trans ev2
        have ev3 : zI s18 this 3 = v3 := ((hTo.k t_this (by decide)).eI hEs18 (by decide) rfl).trans ev3
        have ev4 : zI s18 into 3 = v4 := ((hTo.k t_into (by decide)).eI hEs18 (by decide) rfl).trans ev4
        have ev5 : zI s18 into 4 = v5 := ((hTo.k t_into (by decide)).eI hEs18 (by decide) rfl).trans ev5
        have ev6 : zI s18 into 5 = v6 := ((hTo.k t_into (by decide)).eI hEs18 (by decide) rfl).trans ev6
        have ev8 : zI s18 into 6 = v8 := ((hTo.k t_into (by decide)).eI hEs18 (by decide) rfl).trans ev8
        have ev10 : zI s18 this 4 = v10 := ((hTo.k t_this (by decide)).eI hEs18 (by decide) rfl).trans ev10
        have ev11 : zI s18 this 5 = v11 := ((hTo.k t_this (by decide)).eI hEs18 (by decide) rfl).trans ev11
        have ev13 : zI s18 this 6 = v13 := ((hTo.k t_this (by decide)).eI hEs18 (by decide) rfl).trans ev13
        have ev15 : zI s18 this 7 = v15 := ((hTo.k t_this (by decide)).eI hEs18 (by decide) rfl).trans ev15
        have f19 := hφ
        refine lv_istore (lv' := [(4, .int x17), (2, .int sn), (3, .int j), (0, .ref this), (1, .ref into)]) hx hb dX3_readSettings_13 hl (by decide) rfl (fun ls hl => ?_)
        refine lv_iload hx hb dX3_readSettings_15 (lv_at hl 0 rfl) ?_
        refine lv_iconst (v := (-1)) hx hb dX3_readSettings_17 (by decide) ?_
        refine lv_icmp_ne (tgt := 23) hx hb dX3_readSettings_18 (by decide) (fun c9 => ?_) (fun c9 => ?_)
        · have c3 := gi_ne c9
          obtain ⟨i, hi1, hi2, hi3⟩ := f19.resolve_right (fun q9 => by have := q9.1; omega)
          have hb9 := bits_u y4 hi1 y5 hi2
          refine lv_iload_n hx hb dX3_readSettings_23 rfl (lv_at hl 1 rfl) ?_
          refine lv_iload hx hb dX3_readSettings_24 (lv_at hl 0 rfl) ?_
          refine lv_ishr hx hb dX3_readSettings_26 ?_
          refine lv_topi (fun t20 ht20 => ?_)
          refine lv_iconst (v := 1) hx hb dX3_readSettings_27 (by decide) ?_
          refine lv_iand hx hb dX3_readSettings_28 ?_
          refine lv_topi (fun t21 ht21 => ?_)
          have y9 : t21.toInt = (if nb.testBit i then 1 else 0) := by rw [ht21, ht20]; exact hb9.1
          rcases Bool.eq_false_or_eq_true (nb.testBit i) with hbt | hbt
          · skip
            have y9 : t21.toInt = 1 := by rw [y9, hbt]; rfl
            refine lv_if_eq (tgt := 38) hx hb dX3_readSettings_29 (by decide) (fun c9 => absurd (gi_eq c9) (by omega)) (fun _ => ?_)
            refine lv_aload_n hx hb dX3_readSettings_32 rfl (lv_at hl 3 rfl) ?_
            refine lv_iconst (v := 3) hx hb dX3_readSettings_33 (by decide) ?_
            have cz22 : zI s18 this 5 = v11 := ev11
            have hTo := hT
            refine tVi (n := 1) (As := [.int 3]) (rest := []) hx hb hml hown hg hT hK hX (X3s_isWrong l κ s18 this 3  (hT.k t_this (by decide)) (h0.tr (funext fun k => by rw [erB]; exact hT.eI trB (by decide) rfl rfl) (hT.eI t_this (by decide) rfl rfl))) sub_fW23_fPs (mwV k779 k781 k23 k85 k782) ⟨rfl, by decide, by decide, by decide +kernel⟩ ⟨(Nat.le_of_ble_eq_true rfl), (Nat.le_of_ble_eq_true rfl)⟩ (hT.o6 (hT.k t_this (by decide))) rfl rfl hl.1 rfl (Nat.le_of_ble_eq_true rfl) dX3_readSettings_34 zroom.rf (fun x23 s24 H locs hφ hEs24 hT => ?_)
            have ev4 : zI s24 into 3 = v4 := ((hTo.k t_into (by decide)).eI hEs24 (by decide) rfl).trans ev4
            have ev5 : zI s24 into 4 = v5 := ((hTo.k t_into (by decide)).eI hEs24 (by decide) rfl).trans ev5
            have ev6 : zI s24 into 5 = v6 := ((hTo.k t_into (by decide)).eI hEs24 (by decide) rfl).trans ev6
            have ev8 : zI s24 into 6 = v8 := ((hTo.k t_into (by decide)).eI hEs24 (by decide) rfl).trans ev8
            have ev10 : zI s24 this 4 = v10 := ((hTo.k t_this (by decide)).eI hEs24 (by decide) rfl).trans ev10
            have ev11 : zI s24 this 5 = v11 := ((hTo.k t_this (by decide)).eI hEs24 (by decide) rfl).trans ev11
            have ev13 : zI s24 this 6 = v13 := ((hTo.k t_this (by decide)).eI hEs24 (by decide) rfl).trans ev13
            have ev15 : zI s24 this 7 = v15 := ((hTo.k t_this (by decide)).eI hEs24 (by decide) rfl).trans ev15
            obtain ⟨f25, f26, f27, f28⟩ := hφ
            have wr29 : (zI s24 this 3).toInt = ss := by rw [f27, cz22]; omega
            subst hQ9
            exact t_z hx hb hr f28 hlocks hT ⟨⟨(false, ss, nb, -1, g), y3, Or.inr ⟨by omega, 3, (ss : Nat), Or.inl ⟨rfl, i, hi2, ⟨by omega, hi3⟩, Or.inl ⟨hbt, rfl, rfl⟩⟩, by omega, by omega, by omega⟩⟩, f28⟩ dX3_readSettings_37
          · skip
            have y9 : t21.toInt = 0 := by rw [y9, hbt]; rfl
            refine lv_if_eq (tgt := 38) hx hb dX3_readSettings_29 (by decide) (fun _ => ?_) (fun c9 => absurd (gi_ne c9) (by omega))
            refine lv_iload_n hx hb dX3_readSettings_38 rfl (lv_at hl 1 rfl) ?_
            refine lv_iconst (v := 1) hx hb dX3_readSettings_39 (by decide) ?_
            refine lv_iload hx hb dX3_readSettings_40 (lv_at hl 0 rfl) ?_
            refine lv_ishl hx hb dX3_readSettings_42 ?_
            refine lv_topi (fun t30 ht30 => ?_)
            refine lv_ior hx hb dX3_readSettings_43 ?_
            refine lv_topi (fun t31 ht31 => ?_)
            have y10 : t31.toInt = (nb ||| 2 ^ i : Nat) := by rw [ht31, ht30]; exact hb9.2.1
            refine lv_istore_n (lv' := [(2, .int t31), (4, .int x17), (3, .int j), (0, .ref this), (1, .ref into)]) hx hb dX3_readSettings_44 rfl hl (by decide) rfl (fun ls hl => ?_)
            refine lv_aload_n hx hb dX3_readSettings_45 rfl (lv_at hl 3 rfl) ?_
            have hTo := hT
            refine tVi (n := 0) (As := []) (rest := []) hx hb hml hown hg hT hK hX (X3s_pass l κ s18 this  (hT.k t_this (by decide)) (h0.tr (funext fun k => by rw [erB]; exact hT.eI trB (by decide) rfl rfl) (hT.eI t_this (by decide) rfl rfl)) (show (zI s18 this 6).toInt = (utkE tc Ln ss : Nat) from by rw [(show zI s18 this 6 = v13 from ev13)]; omega) (utkE_le tk168)) sub_fP_fPs (mwV k697 k699 k17 k85 k700) ⟨rfl, by decide, by decide, by decide +kernel⟩ ⟨(Nat.le_of_ble_eq_true rfl), (Nat.le_of_ble_eq_true rfl)⟩ (hT.o6 (hT.k t_this (by decide))) rfl rfl hl.1 rfl (Nat.le_of_ble_eq_true rfl) dX3_readSettings_46 zroom.rf (fun x32 s33 H locs hφ hEs33 hT => ?_)
            have ev2 : zI s33 this 2 = v2 := ((hTo.k t_this (by decide)).eI hEs33 (by decide) rfl).trans ev2
            have ev3 : zI s33 this 3 = v3 := ((hTo.k t_this (by decide)).eI hEs33 (by decide) rfl).trans ev3
            have ev4 : zI s33 into 3 = v4 := ((hTo.k t_into (by decide)).eI hEs33 (by decide) rfl).trans ev4
            have ev5 : zI s33 into 4 = v5 := ((hTo.k t_into (by decide)).eI hEs33 (by decide) rfl).trans ev5
            have ev6 : zI s33 into 5 = v6 := ((hTo.k t_into (by decide)).eI hEs33 (by decide) rfl).trans ev6
            have ev8 : zI s33 into 6 = v8 := ((hTo.k t_into (by decide)).eI hEs33 (by decide) rfl).trans ev8
            obtain ⟨f34, f35, f36⟩ := hφ
            obtain ⟨v37, ev37⟩ : ∃ zz9 : Int32, zI s33 this 4 = zz9 := ⟨_, rfl⟩
            have qv37 : v37.toInt = (zI s33 this 4).toInt := by rw [ev37]
            obtain ⟨v38, ev38⟩ : ∃ zz9 : Int32, zI s33 this 5 = zz9 := ⟨_, rfl⟩
            have qv38 : v38.toInt = (zI s33 this 5).toInt := by rw [ev38]
            have b39 := (hT.P (hT.k t_this (by decide)) (by decide)).2.1
            rw [ev38] at b39
            have b39l := b39.1
            have b39h := b39.2
            obtain ⟨v40, ev40⟩ : ∃ zz9 : Int32, zI s33 this 6 = zz9 := ⟨_, rfl⟩
            have qv40 : v40.toInt = (zI s33 this 6).toInt := by rw [ev40]
            have b41 := (hT.P (hT.k t_this (by decide)) (by decide)).2.2
            rw [ev40] at b41
            have b41l := b41.1
            have b41h := b41.2
            obtain ⟨v42, ev42⟩ : ∃ zz9 : Int32, zI s33 this 7 = zz9 := ⟨_, rfl⟩
            have qv42 : v42.toInt = (zI s33 this 7).toInt := by rw [ev42]
            have tk43 : TKv v37 v38 v40 v42 tc Ln (unxt tc Ln ss) := by have z9 := f35; unfold TKc at z9; rw [(show zI s33 this 4 = v37 from ev37), (show zI s33 this 5 = v38 from ev38), (show zI s33 this 6 = v40 from ev40), (show zI s33 this 7 = v42 from ev42)] at z9; exact z9
            obtain ⟨tk434, tk435, tk436, tk437, tk438⟩ := id tk43
            refine lv_pop hx hb dX3_readSettings_49 rfl ?_
            refine lv_aload_n hx hb dX3_readSettings_50 rfl (lv_at hl 3 rfl) ?_
            refine lv_iload hx hb dX3_readSettings_51 (lv_at hl 1 rfl) ?_
            refine lv_aload_n hx hb dX3_readSettings_53 rfl (lv_at hl 4 rfl) ?_
            have cz44 : zI s33 this 2 = v2 := ev2
            have cz45 : zI s33 this 3 = v3 := ev3
            have hTo := hT
            refine tVi (n := 2) (As := [.int x17, .ref into]) (rest := []) hx hb hml hown hg hT hK hX (X3s_readSetting l κ s33 this x17 into  (hT.k t_this (by decide)) (hT.k t_into (by decide)) (h0.tr (funext fun k => by rw [erB]; exact hT.eI trB (by decide) rfl rfl) (hT.eI t_this (by decide) rfl rfl)) (show TKc s33 this tc Ln (unxt tc Ln ss) from by unfold TKc; rw [(show zI s33 this 4 = v37 from ev37), (show zI s33 this 5 = v38 from ev38), (show zI s33 this 6 = v40 from ev40), (show zI s33 this 7 = v42 from ev42)]; exact tk43) (show GSc s33 into g from ⟨by rw [(show zI s33 into 3 = v4 from ev4)]; exact gs9.1, by rw [(show zI s33 into 4 = v5 from ev5)]; exact gs9.2.1, by rw [(show zI s33 into 5 = v6 from ev6)]; exact gs9.2.2.1, by rw [(show zI s33 into 6 = v8 from ev8)]; exact gs9.2.2.2⟩) hi1 hi2) (fun _ _ h => h) (mwV k783 k785 k24 k85 k786) ⟨rfl, by decide, by decide, by decide +kernel⟩ ⟨(Nat.le_of_ble_eq_true rfl), (Nat.le_of_ble_eq_true rfl)⟩ (hT.o6 (hT.k t_this (by decide))) rfl rfl hl.1 rfl (Nat.le_of_ble_eq_true rfl) dX3_readSettings_54 zroom.rf (fun x46 s47 H locs hφ hEs47 hT => ?_)
            obtain ⟨f48, f49⟩ := hφ
            rcases f48 with ⟨a1, ⟨v9, a2, a3⟩, a4, a5, a6⟩ | ⟨a1, a2, ⟨co, a3, a4⟩, a5⟩
            · skip
              obtain ⟨v50, ev50⟩ : ∃ zz9 : Int32, zI s47 this 2 = zz9 := ⟨_, rfl⟩
              have qv50 : v50.toInt = (zI s47 this 2).toInt := by rw [ev50]
              have zthis2 : zI σ0 this 2 = v50 := zthis2.trans (cz44.symm.trans (a5.symm.trans ev50))
              obtain ⟨v51, ev51⟩ : ∃ zz9 : Int32, zI s47 this 3 = zz9 := ⟨_, rfl⟩
              have qv51 : v51.toInt = (zI s47 this 3).toInt := by rw [ev51]
              have zthis3 : zI σ0 this 3 = v51 := zthis3.trans (cz45.symm.trans (a6.symm.trans ev51))
              obtain ⟨v52, ev52⟩ : ∃ zz9 : Int32, zI s47 into 3 = zz9 := ⟨_, rfl⟩
              have qv52 : v52.toInt = (zI s47 into 3).toInt := by rw [ev52]
              obtain ⟨v53, ev53⟩ : ∃ zz9 : Int32, zI s47 into 4 = zz9 := ⟨_, rfl⟩
              have qv53 : v53.toInt = (zI s47 into 4).toInt := by rw [ev53]
              obtain ⟨v54, ev54⟩ : ∃ zz9 : Int32, zI s47 into 5 = zz9 := ⟨_, rfl⟩
              have qv54 : v54.toInt = (zI s47 into 5).toInt := by rw [ev54]
              have b55 : isB v54 := by have q9 := (hT.P (hT.k t_into (by decide)) (by decide)).2; rw [ev54] at q9; exact q9
              obtain ⟨v56, ev56⟩ : ∃ zz9 : Int32, zI s47 into 6 = zz9 := ⟨_, rfl⟩
              have qv56 : v56.toInt = (zI s47 into 6).toInt := by rw [ev56]
              have gs57 : v52.toInt = (fun j => if j = i then v9 else g j) 0 ∧ v53.toInt = (fun j => if j = i then v9 else g j) 1 ∧ v54.toInt = (fun j => if j = i then v9 else g j) 2 ∧ v56.toInt = (fun j => if j = i then v9 else g j) 3 := by have z9 := a3; unfold GSc at z9; rw [(show zI s47 into 3 = v52 from ev52), (show zI s47 into 4 = v53 from ev53), (show zI s47 into 5 = v54 from ev54), (show zI s47 into 6 = v56 from ev56)] at z9; exact z9
              obtain ⟨v58, ev58⟩ : ∃ zz9 : Int32, zI s47 this 4 = zz9 := ⟨_, rfl⟩
              have qv58 : v58.toInt = (zI s47 this 4).toInt := by rw [ev58]
              obtain ⟨v59, ev59⟩ : ∃ zz9 : Int32, zI s47 this 5 = zz9 := ⟨_, rfl⟩
              have qv59 : v59.toInt = (zI s47 this 5).toInt := by rw [ev59]
              have b60 := (hT.P (hT.k t_this (by decide)) (by decide)).2.1
              rw [ev59] at b60
              have b60l := b60.1
              have b60h := b60.2
              obtain ⟨v61, ev61⟩ : ∃ zz9 : Int32, zI s47 this 6 = zz9 := ⟨_, rfl⟩
              have qv61 : v61.toInt = (zI s47 this 6).toInt := by rw [ev61]
              have b62 := (hT.P (hT.k t_this (by decide)) (by decide)).2.2
              rw [ev61] at b62
              have b62l := b62.1
              have b62h := b62.2
              obtain ⟨v63, ev63⟩ : ∃ zz9 : Int32, zI s47 this 7 = zz9 := ⟨_, rfl⟩
              have qv63 : v63.toInt = (zI s47 this 7).toInt := by rw [ev63]
              have tk64 : TKv v58 v59 v61 v63 tc Ln (unxt tc Ln (unxt tc Ln ss)) := by have z9 := a4; unfold TKc at z9; rw [(show zI s47 this 4 = v58 from ev58), (show zI s47 this 5 = v59 from ev59), (show zI s47 this 6 = v61 from ev61), (show zI s47 this 7 = v63 from ev63)] at z9; exact z9
              obtain ⟨tk644, tk645, tk646, tk647, tk648⟩ := id tk64
              refine lv_if_eq (tgt := 67) hx hb dX3_readSettings_57 (by decide) (fun c9 => absurd (gi_eq c9) (by omega)) (fun _ => ?_)
              refine lv_aload_n hx hb dX3_readSettings_60 rfl (lv_at hl 3 rfl) ?_
              have cz65 : zI s47 this 2 = v50 := ev50
              have cz66 : zI s47 this 3 = v51 := ev51
              have hTo := hT
              refine tVi (n := 0) (As := []) (rest := []) hx hb hml hown hg hT hK hX (X3s_passSemicolon l κ s47 this  (hT.k t_this (by decide)) (h0.tr (funext fun k => by rw [erB]; exact hT.eI trB (by decide) rfl rfl) (hT.eI t_this (by decide) rfl rfl)) (show TKc s47 this tc Ln (unxt tc Ln (unxt tc Ln ss)) from by unfold TKc; rw [(show zI s47 this 4 = v58 from ev58), (show zI s47 this 5 = v59 from ev59), (show zI s47 this 6 = v61 from ev61), (show zI s47 this 7 = v63 from ev63)]; exact tk64)) sub_fPe_fPs (mwV k799 k801 k26 k85 k802) ⟨rfl, by decide, by decide, by decide +kernel⟩ ⟨(Nat.le_of_ble_eq_true rfl), (Nat.le_of_ble_eq_true rfl)⟩ (hT.o6 (hT.k t_this (by decide))) rfl rfl hl.1 rfl (Nat.le_of_ble_eq_true rfl) dX3_readSettings_61 zroom.rf (fun x67 s68 H locs hφ hEs68 hT => ?_)
              have ev52 : zI s68 into 3 = v52 := ((hTo.k t_into (by decide)).eI hEs68 (by decide) rfl).trans ev52
              have ev53 : zI s68 into 4 = v53 := ((hTo.k t_into (by decide)).eI hEs68 (by decide) rfl).trans ev53
              have ev54 : zI s68 into 5 = v54 := ((hTo.k t_into (by decide)).eI hEs68 (by decide) rfl).trans ev54
              have ev56 : zI s68 into 6 = v56 := ((hTo.k t_into (by decide)).eI hEs68 (by decide) rfl).trans ev56
              obtain ⟨f69, f70⟩ := hφ
              rcases f69 with ⟨b1, b2, b3, b4, b5⟩ | ⟨b1, b2, b3, b4⟩
              · skip
                obtain ⟨v71, ev71⟩ : ∃ zz9 : Int32, zI s68 this 2 = zz9 := ⟨_, rfl⟩
                have qv71 : v71.toInt = (zI s68 this 2).toInt := by rw [ev71]
                have zthis2 : zI σ0 this 2 = v71 := zthis2.trans (cz65.symm.trans (b4.symm.trans ev71))
                obtain ⟨v72, ev72⟩ : ∃ zz9 : Int32, zI s68 this 3 = zz9 := ⟨_, rfl⟩
                have qv72 : v72.toInt = (zI s68 this 3).toInt := by rw [ev72]
                have zthis3 : zI σ0 this 3 = v72 := zthis3.trans (cz66.symm.trans (b5.symm.trans ev72))
                obtain ⟨v73, ev73⟩ : ∃ zz9 : Int32, zI s68 this 4 = zz9 := ⟨_, rfl⟩
                have qv73 : v73.toInt = (zI s68 this 4).toInt := by rw [ev73]
                obtain ⟨v74, ev74⟩ : ∃ zz9 : Int32, zI s68 this 5 = zz9 := ⟨_, rfl⟩
                have qv74 : v74.toInt = (zI s68 this 5).toInt := by rw [ev74]
                have b75 := (hT.P (hT.k t_this (by decide)) (by decide)).2.1
                rw [ev74] at b75
                have b75l := b75.1
                have b75h := b75.2
                obtain ⟨v76, ev76⟩ : ∃ zz9 : Int32, zI s68 this 6 = zz9 := ⟨_, rfl⟩
                have qv76 : v76.toInt = (zI s68 this 6).toInt := by rw [ev76]
                have b77 := (hT.P (hT.k t_this (by decide)) (by decide)).2.2
                rw [ev76] at b77
                have b77l := b77.1
                have b77h := b77.2
                obtain ⟨v78, ev78⟩ : ∃ zz9 : Int32, zI s68 this 7 = zz9 := ⟨_, rfl⟩
                have qv78 : v78.toInt = (zI s68 this 7).toInt := by rw [ev78]
                have tk79 : TKv v73 v74 v76 v78 tc Ln (unxt tc Ln (unxt tc Ln (unxt tc Ln ss))) := by have z9 := b3; unfold TKc at z9; rw [(show zI s68 this 4 = v73 from ev73), (show zI s68 this 5 = v74 from ev74), (show zI s68 this 6 = v76 from ev76), (show zI s68 this 7 = v78 from ev78)] at z9; exact z9
                obtain ⟨tk794, tk795, tk796, tk797, tk798⟩ := id tk79
                refine lv_if_ne (tgt := 69) hx hb dX3_readSettings_64 (by decide) (fun _ => ?_) (fun c9 => absurd (gi_eq c9) (by omega))
                obtain ⟨t80, qt80⟩ : ∃ zz9 : Int32, j + Int32.ofInt 1 = zz9 := ⟨_, rfl⟩
                refine lv_iinc (v := t80) (lv' := [(3, .int t80), (2, .int t31), (4, .int x17), (0, .ref this), (1, .ref into)]) hx hb dX3_readSettings_69 hl (k := 2) rfl qt80 (by decide) rfl (fun ls hl => ?_)
                have ht80 : t80.toInt = j.toInt + 1 := by rw [← qt80]; exact v_addi rfl (show (Int32.ofInt 1).toInt = 1 from by decide) (by omega) (by omega)
                refine lv_goto (tgt := 4) hx hb dX3_readSettings_72 (by decide) ?_
                exact ih4 t31 t80 _ _ _ _ hT  (by omega) (by omega) ⟨(unxt tc Ln (unxt tc Ln (unxt tc Ln ss))), nb ||| 2 ^ i, (fun j => if j = i then v9 else g j), (show TKc s68 this tc Ln (unxt tc Ln (unxt tc Ln (unxt tc Ln ss))) from by unfold TKc; rw [(show zI s68 this 4 = v73 from ev73), (show zI s68 this 5 = v74 from ev74), (show zI s68 this 6 = v76 from ev76), (show zI s68 this 7 = v78 from ev78)]; exact tk79), (show GSc s68 into (fun j => if j = i then v9 else g j) from ⟨by rw [(show zI s68 into 3 = v52 from ev52)]; exact gs57.1, by rw [(show zI s68 into 4 = v53 from ev53)]; exact gs57.2.1, by rw [(show zI s68 into 5 = v54 from ev54)]; exact gs57.2.2.1, by rw [(show zI s68 into 6 = v56 from ev56)]; exact gs57.2.2.2⟩), urt_tl y3 (Or.inl ⟨rfl, Or.inl ⟨_, _, _, ⟨i, v9, hi2, ⟨by omega, hi3⟩, hbt, a2, b2, rfl, rfl, rfl⟩, rfl⟩⟩), y10, hb9.2.2.1, by have z9 := hb9.2.2.2.1 hbt; omega, ((show zI s68 this 2 = v71 from ev71).trans zthis2.symm), ((show zI s68 this 3 = v72 from ev72).trans zthis3.symm)⟩ (lv_sub hl [1, 0, 3, 4] rfl) (by omega)
              · skip
                refine lv_if_ne (tgt := 69) hx hb dX3_readSettings_64 (by decide) (fun c9 => absurd (gi_ne c9) (by omega)) (fun _ => ?_)
                refine lv_iconst (v := 0) hx hb dX3_readSettings_67 (by decide) ?_
                subst hQ9
                exact t_z hx hb hr isB0 hlocks hT ⟨⟨(false, ss, nb, -1, g), y3, Or.inr ⟨by omega, 1, (unxt tc Ln (unxt tc Ln ss) : Nat), Or.inl ⟨rfl, i, hi2, ⟨by omega, hi3⟩, Or.inr (Or.inr ⟨hbt, ⟨v9, a2⟩, b2, rfl, rfl⟩)⟩, by omega, by omega, by omega⟩⟩, isB0⟩ dX3_readSettings_68
            · skip
              refine lv_if_eq (tgt := 67) hx hb dX3_readSettings_57 (by decide) (fun _ => ?_) (fun c9 => absurd (gi_ne c9) (by omega))
              refine lv_iconst (v := 0) hx hb dX3_readSettings_67 (by decide) ?_
              subst hQ9
              exact t_z hx hb hr isB0 hlocks hT ⟨⟨(false, ss, nb, -1, g), y3, Or.inr ⟨by omega, co, (unxt tc Ln ss : Nat), Or.inl ⟨rfl, i, hi2, ⟨by omega, hi3⟩, Or.inr (Or.inl ⟨hbt, a2, a3, rfl⟩)⟩, by rcases a3 with ⟨_, _, q9⟩ | ⟨_, q9⟩ <;> omega, a4, a5⟩⟩, isB0⟩ dX3_readSettings_68
        · have c4 := gi_eq c9
          refine lv_iconst (v := 1) hx hb dX3_readSettings_21 (by decide) ?_
          subst hQ9
          exact t_z hx hb hr isB1 hlocks hT ⟨⟨(true, ss, 0, -1, g), urt_tl y3 (Or.inl ⟨rfl, Or.inr ⟨fun k hk q9 => (f19.resolve_left (fun ⟨_, q8, _⟩ => by omega)).2 k hk q9.2, rfl⟩⟩), Or.inl ⟨n1, ss, g, rfl, (show TKc s18 this tc Ln ss from by unfold TKc; rw [(show zI s18 this 4 = v10 from ev10), (show zI s18 this 5 = v11 from ev11), (show zI s18 this 6 = v13 from ev13), (show zI s18 this 7 = v15 from ev15)]; exact tk16), (show GSc s18 into g from ⟨by rw [(show zI s18 into 3 = v4 from ev4)]; exact gs9.1, by rw [(show zI s18 into 4 = v5 from ev5)]; exact gs9.2.1, by rw [(show zI s18 into 5 = v6 from ev6)]; exact gs9.2.2.1, by rw [(show zI s18 into 6 = v8 from ev8)]; exact gs9.2.2.2⟩), ((show zI s18 this 2 = v2 from ev2).trans zthis2.symm), ((show zI s18 this 3 = v3 from ev3).trans zthis3.symm)⟩⟩, isB1⟩ dX3_readSettings_22
  exact loop4 ((5 - (0 : Int32).toInt).toNat + 1) 0 0 _ _ _ _ hT  (by omega) (by omega) ⟨sp, 0, gg, h1, h2, urt_rf, n0, by decide, n0, rfl, rfl⟩ (lv_sub hl [1, 0, 2, 3] rfl) (by omega)
