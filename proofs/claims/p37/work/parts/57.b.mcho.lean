/-! What the reference reads: words of settings -/
set_option maxHeartbeats 4000000 in
set_option maxRecDepth 100000 in
theorem X6s_choice (l : Launch) (κ : Kt) (σ0 : Gh) (this : Nat) (x1 : Int64) (x2 : Int64) (x3 : Int64) {tc : Nat → Int} {Ln : Nat} {aa w1 w2 w3 : Nat} (t_this : zk σ0 this 20) (h0 : TXm κ σ0 this tc Ln) (h1 : (zI σ0 this 17).toInt = 0) (h2 : (zI σ0 this 14).toInt = (aa : Nat)) (h3 : aa ≤ Ln) (h4 : encP x1 w1) (h5 : encP x2 w2) (h6 : (x3.toInt = 0 ∧ w3 = 13) ∨ (0 < x3.toInt ∧ encP x3 w3)) : TC l yX6_choice cX6_choice 9 (some .int) 5 115 [.ref this, .long x1, .long x2, .long x3] κ σ0 (tqi κ gHB σ0 (fun (r : Int32) (τ : Gh) => ((r.toInt = 0 ∧ uWd tc Ln w1 (uscn uisBl tc Ln aa) ∧ (zI τ this 14).toInt = (uscn uisLe tc Ln (uscn uisBl tc Ln aa) : Nat) ∧ (zI τ this 17).toInt = 0 ∧ zI τ this 15 = zI σ0 this 15 ∧ zI τ this 16 = zI σ0 this 16) ∨ (r.toInt = 1 ∧ uWd tc Ln w2 (uscn uisBl tc Ln aa) ∧ (zI τ this 14).toInt = (uscn uisLe tc Ln (uscn uisBl tc Ln aa) : Nat) ∧ (zI τ this 17).toInt = 0 ∧ zI τ this 15 = zI σ0 this 15 ∧ zI τ this 16 = zI σ0 this 16) ∨ (r.toInt = 2 ∧ uWd tc Ln w3 (uscn uisBl tc Ln aa) ∧ (zI τ this 14).toInt = (uscn uisLe tc Ln (uscn uisBl tc Ln aa) : Nat) ∧ (zI τ this 17).toInt = 0 ∧ zI τ this 15 = zI σ0 this 15 ∧ zI τ this 16 = zI σ0 this 16) ∨ (r.toInt = -1 ∧ ¬ uWd tc Ln w1 (uscn uisBl tc Ln aa) ∧ ¬ uWd tc Ln w2 (uscn uisBl tc Ln aa) ∧ ¬ uWd tc Ln w3 (uscn uisBl tc Ln aa) ∧ (zI τ this 17).toInt = 1 ∧ (zI τ this 15).toInt = 1 ∧ (zI τ this 16).toInt = (uscn uisBl tc Ln aa))))) := by
  refine TC.of gHB (by decide +kernel) (Nat.le_of_ble_eq_true rfl) ?_
  intro p e s m below meth c ls hcs hK hX hT hl
  obtain ⟨hx, hb, hr, hml, hown, hg, hlocks, hin⟩ := hcs
  have hown : s.vm.findClass RX6 = some m.cls := hown
  have hl : lv_has ls 9 [(0, .ref this), (1, .long x1), (3, .long x2), (5, .long x3)] := hl
  have hT0 := hT
  have nm1 : ((-1) : Int32).toInt = (-1) := by decide
  have n0 : (0 : Int32).toInt = 0 := by decide
  have n1 : (1 : Int32).toInt = 1 := by decide
  have n2 : (2 : Int32).toInt = 2 := by decide
  have j0 : (0 : Int64).toInt = 0 := by decide
  generalize hQ9 : tQ _ _ _ _ _ _ = Q9
  have hTX := h0
  obtain ⟨rT, erT⟩ : ∃ z, kR κ this 12 = z := ⟨_, rfl⟩
  have trT : zk σ0 rT 23 := by rw [← erT]; exact hT0.ref t_this (by decide) (by decide) (by decide)
  have hpc : ∀ j, tc j = (zI σ0 rT j).toInt := by rw [← erT]; exact hTX.1
  have hLn : (zI σ0 this 13).toInt = Ln := hTX.2.1
  have hL7 : Ln ≤ 700 := hTX.2.2.1
  have hnn := hTX.2.2.2
  obtain ⟨v1, ev1⟩ : ∃ zz9 : Int32, zI σ0 this 17 = zz9 := ⟨_, rfl⟩
  have qv1 : v1.toInt = (zI σ0 this 17).toInt := by rw [ev1]
  have b2 : isB v1 := by have q9 : isB (zI σ0 this 17) := hT.P (hT.k t_this (by decide)) (by decide); rw [ev1] at q9; exact q9
  have b2t := isB_t b2
  obtain ⟨v3, ev3⟩ : ∃ zz9 : Int32, zI σ0 this 14 = zz9 := ⟨_, rfl⟩
  have qv3 : v3.toInt = (zI σ0 this 14).toInt := by rw [ev3]
  obtain ⟨v4, ev4⟩ : ∃ zz9 : Int32, zI σ0 this 15 = zz9 := ⟨_, rfl⟩
  have qv4 : v4.toInt = (zI σ0 this 15).toInt := by rw [ev4]
  have zthis15 : zI σ0 this 15 = v4 := ev4
  obtain ⟨v5, ev5⟩ : ∃ zz9 : Int32, zI σ0 this 16 = zz9 := ⟨_, rfl⟩
  have qv5 : v5.toInt = (zI σ0 this 16).toInt := by rw [ev5]
  have zthis16 : zI σ0 this 16 = v5 := ev5
  obtain ⟨ss, hss⟩ : ∃ z, (uscn uisBl tc Ln aa) = z := ⟨_, rfl⟩
  have hsL : aa ≤ Ln → ss ≤ Ln := fun q9 => by rw [← hss]; exact uscn_le q9
  have hs2 : uscn uisBl tc Ln ss = ss := by rw [← hss]; exact uscn_id
  have hsl9 := hsL h3
  refine lv_aload_n hx hb dX6_choice_0 rfl (lv_at hl 0 rfl) ?_
  refine lv_lload_n hx hb dX6_choice_1 rfl (lv_at hl 1 rfl) ?_
  have hTo := hT
  refine tVi (n := 1) (As := [.long x1]) (rest := []) hx hb hml hown hg hT hK hX (X6s_takes l κ σ0 this x1  (hT.k t_this (by decide)) hTX (show (zI σ0 this 17).toInt = 0 from by rw [(show zI σ0 this 17 = v1 from ev1)]; omega) (show (zI σ0 this 14).toInt = ((aa : Nat) : Int) from by rw [(show zI σ0 this 14 = v3 from ev3)]; omega) h3 h4) sub_gH_gHB (mwV k1372 k1374 k47 k92 k1375) ⟨rfl, by decide, by decide, by decide +kernel⟩ ⟨(Nat.le_of_ble_eq_true rfl), (Nat.le_of_ble_eq_true rfl)⟩ (hT.o20 (hT.k t_this (by decide))) rfl rfl hl.1 rfl (Nat.le_of_ble_eq_true rfl) dX6_choice_2 zroom.rf (fun x6 s7 H locs hφ hEs7 hT => ?_)
  have ev1 : zI s7 this 17 = v1 := ((hTo.k t_this (by decide)).eI hEs7 (by decide) rfl).trans ev1
  have ev4 : zI s7 this 15 = v4 := ((hTo.k t_this (by decide)).eI hEs7 (by decide) rfl).trans ev4
  have ev5 : zI s7 this 16 = v5 := ((hTo.k t_this (by decide)).eI hEs7 (by decide) rfl).trans ev5
  obtain ⟨f8, f9⟩ := hφ
  rw [hss] at f8
  rcases f8 with ⟨u11, u12, u13⟩ | ⟨u11, u12, u13⟩
  · skip
    obtain ⟨v10, ev10⟩ : ∃ zz9 : Int32, zI s7 this 14 = zz9 := ⟨_, rfl⟩
    have qv10 : v10.toInt = (zI s7 this 14).toInt := by rw [ev10]
    rw [(show zI s7 this 14 = v10 from ev10)] at u13
    refine lv_if_eq (tgt := 12) hx hb dX6_choice_5 (by decide) (fun c9 => absurd (gi_eq c9) (by omega)) (fun _ => ?_)
    refine lv_iconst (v := 0) hx hb dX6_choice_8 (by decide) ?_
    refine lv_goto (tgt := 45) hx hb dX6_choice_9 (by decide) ?_
    refine lv_istore (lv' := [(7, .int 0), (0, .ref this), (1, .long x1), (3, .long x2), (5, .long x3)]) hx hb dX6_choice_45 hl (by decide) rfl (fun ls hl => ?_)
    refine lv_iload hx hb dX6_choice_47 (lv_at hl 0 rfl) ?_
    refine lv_iconst (v := (-1)) hx hb dX6_choice_49 (by decide) ?_
    refine lv_icmp_ne (tgt := 75) hx hb dX6_choice_50 (by decide) (fun _ => ?_) (fun c9 => absurd c9 (by decide))
    refine lv_iload hx hb dX6_choice_75 (lv_at hl 0 rfl) ?_
    subst hQ9
    exact t_i hx hb hr hlocks hT (Or.inl ⟨n0, ⟨(h4).1, by rw [hss]; exact u12⟩, by rw [(show zI s7 this 14 = v10 from ev10), hss]; omega, by rw [(show zI s7 this 17 = v1 from ev1)]; omega, ((show zI s7 this 15 = v4 from ev4).trans zthis15.symm), ((show zI s7 this 16 = v5 from ev5).trans zthis16.symm)⟩) dX6_choice_77
  · skip
    obtain ⟨v11, ev11⟩ : ∃ zz9 : Int32, zI s7 this 14 = zz9 := ⟨_, rfl⟩
    have qv11 : v11.toInt = (zI s7 this 14).toInt := by rw [ev11]
    rw [(show zI s7 this 14 = v11 from ev11)] at u13
    refine lv_if_eq (tgt := 12) hx hb dX6_choice_5 (by decide) (fun _ => ?_) (fun c9 => absurd (gi_ne c9) (by omega))
    refine lv_aload_n hx hb dX6_choice_12 rfl (lv_at hl 0 rfl) ?_
    refine lv_lload_n hx hb dX6_choice_13 rfl (lv_at hl 2 rfl) ?_
    have hTo := hT
    refine tVi (n := 1) (As := [.long x2]) (rest := []) hx hb hml hown hg hT hK hX (X6s_takes l κ s7 this x2  (hT.k t_this (by decide)) (hTX.tr (funext fun k => by rw [erT]; exact hT.eI trT (by decide) rfl rfl) (hT.eI t_this (by decide) rfl rfl)) (show (zI s7 this 17).toInt = 0 from by rw [(show zI s7 this 17 = v1 from ev1)]; omega) (show (zI s7 this 14).toInt = ((ss : Nat) : Int) from by rw [(show zI s7 this 14 = v11 from ev11)]; omega) hsl9 h5) sub_gH_gHB (mwV k1372 k1374 k47 k92 k1375) ⟨rfl, by decide, by decide, by decide +kernel⟩ ⟨(Nat.le_of_ble_eq_true rfl), (Nat.le_of_ble_eq_true rfl)⟩ (hT.o20 (hT.k t_this (by decide))) rfl rfl hl.1 rfl (Nat.le_of_ble_eq_true rfl) dX6_choice_14 zroom.rf (fun x12 s13 H locs hφ hEs13 hT => ?_)
    have ev1 : zI s13 this 17 = v1 := ((hTo.k t_this (by decide)).eI hEs13 (by decide) rfl).trans ev1
    have ev4 : zI s13 this 15 = v4 := ((hTo.k t_this (by decide)).eI hEs13 (by decide) rfl).trans ev4
    have ev5 : zI s13 this 16 = v5 := ((hTo.k t_this (by decide)).eI hEs13 (by decide) rfl).trans ev5
    obtain ⟨f14, f15⟩ := hφ
    rw [hs2] at f14
    rcases f14 with ⟨u21, u22, u23⟩ | ⟨u21, u22, u23⟩
    · skip
      obtain ⟨v16, ev16⟩ : ∃ zz9 : Int32, zI s13 this 14 = zz9 := ⟨_, rfl⟩
      have qv16 : v16.toInt = (zI s13 this 14).toInt := by rw [ev16]
      rw [(show zI s13 this 14 = v16 from ev16)] at u23
      refine lv_if_eq (tgt := 24) hx hb dX6_choice_17 (by decide) (fun c9 => absurd (gi_eq c9) (by omega)) (fun _ => ?_)
      refine lv_iconst (v := 1) hx hb dX6_choice_20 (by decide) ?_
      refine lv_goto (tgt := 45) hx hb dX6_choice_21 (by decide) ?_
      refine lv_istore (lv' := [(7, .int 1), (0, .ref this), (1, .long x1), (3, .long x2), (5, .long x3)]) hx hb dX6_choice_45 hl (by decide) rfl (fun ls hl => ?_)
      refine lv_iload hx hb dX6_choice_47 (lv_at hl 0 rfl) ?_
      refine lv_iconst (v := (-1)) hx hb dX6_choice_49 (by decide) ?_
      refine lv_icmp_ne (tgt := 75) hx hb dX6_choice_50 (by decide) (fun _ => ?_) (fun c9 => absurd c9 (by decide))
      refine lv_iload hx hb dX6_choice_75 (lv_at hl 0 rfl) ?_
      subst hQ9
      exact t_i hx hb hr hlocks hT (Or.inr (Or.inl ⟨n1, ⟨(h5).1, by rw [hss]; exact u22⟩, by rw [(show zI s13 this 14 = v16 from ev16), hss]; omega, by rw [(show zI s13 this 17 = v1 from ev1)]; omega, ((show zI s13 this 15 = v4 from ev4).trans zthis15.symm), ((show zI s13 this 16 = v5 from ev5).trans zthis16.symm)⟩)) dX6_choice_77
    · skip
      obtain ⟨v17, ev17⟩ : ∃ zz9 : Int32, zI s13 this 14 = zz9 := ⟨_, rfl⟩
      have qv17 : v17.toInt = (zI s13 this 14).toInt := by rw [ev17]
      rw [(show zI s13 this 14 = v17 from ev17)] at u23
      refine lv_if_eq (tgt := 24) hx hb dX6_choice_17 (by decide) (fun _ => ?_) (fun c9 => absurd (gi_ne c9) (by omega))
      refine lv_lload hx hb dX6_choice_24 (lv_at hl 3 rfl) ?_
      refine lv_lconst (v := 0) hx hb dX6_choice_26 (by decide) ?_
      refine W.lcmp hx hb dX6_choice_27 ?_
      refine lv_if_le (tgt := 44) hx hb dX6_choice_28 (by decide) (fun c9 => ?_) (fun c9 => ?_)
      · have c1 := gl_le c9
        refine lv_iconst (v := (-1)) hx hb dX6_choice_44 (by decide) ?_
        refine lv_istore (lv' := [(7, .int (-1)), (0, .ref this), (1, .long x1), (3, .long x2), (5, .long x3)]) hx hb dX6_choice_45 hl (by decide) rfl (fun ls hl => ?_)
        refine lv_iload hx hb dX6_choice_47 (lv_at hl 0 rfl) ?_
        refine lv_iconst (v := (-1)) hx hb dX6_choice_49 (by decide) ?_
        refine lv_icmp_ne (tgt := 75) hx hb dX6_choice_50 (by decide) (fun c9 => absurd (by decide) c9) (fun _ => ?_)
        refine lv_aload_n hx hb dX6_choice_53 rfl (lv_at hl 1 rfl) ?_
        refine va_get (D := κ.1) (ci := 6) (v := .int (zI s13 this 17)) (C := RX6) (T := TX6) (N := 27) hx hb hg inX6 hown hK (hT.o20 (hT.k t_this (by decide))).one 0 rfl rfl 17 (by decide) (hg _ k1236) (fun _ h9 => h9) rfl dX6_choice_54 ?_
        rw [ev1]
        refine lv_if_ne (tgt := 75) hx hb dX6_choice_57 (by decide) (fun c9 => absurd (gi_ne c9) (by omega)) (fun _ => ?_)
        refine lv_aload_n hx hb dX6_choice_60 rfl (lv_at hl 1 rfl) ?_
        have hTo := hT
        refine tVi (n := 0) (As := []) (rest := []) hx hb hml hown hg hT hK hX (X6s_here l κ s13 this  (hT.k t_this (by decide)) (hTX.tr (funext fun k => by rw [erT]; exact hT.eI trT (by decide) rfl rfl) (hT.eI t_this (by decide) rfl rfl)) (show (zI s13 this 14).toInt = ((ss : Nat) : Int) from by rw [(show zI s13 this 14 = v17 from ev17)]; omega) hsl9) sub_gH_gHB (mwV k1345 k1347 k42 k92 k1348) ⟨rfl, by decide, by decide, by decide +kernel⟩ ⟨(Nat.le_of_ble_eq_true rfl), (Nat.le_of_ble_eq_true rfl)⟩ (hT.o20 (hT.k t_this (by decide))) rfl rfl hl.1 rfl (Nat.le_of_ble_eq_true rfl) dX6_choice_61 zroom.rf (fun x18 s19 H locs hφ hEs19 hT => ?_)
        have ev1 : zI s19 this 17 = v1 := ((hTo.k t_this (by decide)).eI hEs19 (by decide) rfl).trans ev1
        have ev4 : zI s19 this 15 = v4 := ((hTo.k t_this (by decide)).eI hEs19 (by decide) rfl).trans ev4
        have ev5 : zI s19 this 16 = v5 := ((hTo.k t_this (by decide)).eI hEs19 (by decide) rfl).trans ev5
        obtain ⟨f20, f21⟩ := hφ
        rw [hs2] at f20
        obtain ⟨v22, ev22⟩ : ∃ zz9 : Int32, zI s19 this 14 = zz9 := ⟨_, rfl⟩
        have qv22 : v22.toInt = (zI s19 this 14).toInt := by rw [ev22]
        rw [(show zI s19 this 14 = v22 from ev22)] at f20
        refine lv_istore (lv' := [(8, .int x18), (7, .int (-1)), (0, .ref this), (1, .long x1), (3, .long x2), (5, .long x3)]) hx hb dX6_choice_64 hl (by decide) rfl (fun ls hl => ?_)
        refine lv_aload_n hx hb dX6_choice_66 rfl (lv_at hl 2 rfl) ?_
        refine lv_iconst (v := 1) hx hb dX6_choice_67 (by decide) ?_
        refine lv_aload_n hx hb dX6_choice_68 rfl (lv_at hl 2 rfl) ?_
        refine va_get (D := κ.1) (ci := 6) (v := .int (zI s19 this 14)) (C := RX6) (T := TX6) (N := 27) hx hb hg inX6 hown hK (hT.o20 (hT.k t_this (by decide))).one 0 rfl rfl 14 (by decide) (hg _ k1233) (fun _ h9 => h9) rfl dX6_choice_69 ?_
        rw [ev22]
        have cz23 : zI s19 this 17 = v1 := ev1
        have hTo := hT
        refine tVv (n := 2) (As := [.int 1, .int v22]) (rest := []) hx hb hml hown hg hT hK hX (X6s_wrong l κ s19 this 1 v22  (hT.k t_this (by decide)) ) sub_gB_gHB (mwV k1361 k1363 k45 k92 k1364) ⟨rfl, by decide, by decide, by decide +kernel⟩ ⟨(Nat.le_of_ble_eq_true rfl), (Nat.le_of_ble_eq_true rfl)⟩ (hT.o20 (hT.k t_this (by decide))) rfl rfl hl.1 rfl (Nat.le_of_ble_eq_true rfl) dX6_choice_72 zroom.rf (fun s25 H locs hφ hEs25 hT => ?_)
        have ev22 : zI s25 this 14 = v22 := ((hTo.k t_this (by decide)).eI hEs25 (by decide) rfl).trans ev22
        have f26 := hφ
        obtain ⟨wb91, wb92, wb93⟩ := (f26.resolve_left (fun q9 => by have z9 := q9.1; rw [cz23] at z9; omega)).2
        refine lv_iload hx hb dX6_choice_75 (lv_at hl 1 rfl) ?_
        subst hQ9
        exact t_i hx hb hr hlocks hT (Or.inr (Or.inr (Or.inr ⟨nm1, fun q9 => u12 (by rw [hss] at q9; exact q9.2), fun q9 => u22 (by rw [hss] at q9; exact q9.2), fun q9 => by have z9 := q9.1; omega, wb91, by rw [wb92]; exact n1, by rw [wb93, hss]; omega⟩))) dX6_choice_77
      · have c2 := gl_nle c9
        refine lv_aload_n hx hb dX6_choice_31 rfl (lv_at hl 0 rfl) ?_
        refine lv_lload hx hb dX6_choice_32 (lv_at hl 3 rfl) ?_
        have hTo := hT
        refine tVi (n := 1) (As := [.long x3]) (rest := []) hx hb hml hown hg hT hK hX (X6s_takes l κ s13 this x3  (hT.k t_this (by decide)) (hTX.tr (funext fun k => by rw [erT]; exact hT.eI trT (by decide) rfl rfl) (hT.eI t_this (by decide) rfl rfl)) (show (zI s13 this 17).toInt = 0 from by rw [(show zI s13 this 17 = v1 from ev1)]; omega) (show (zI s13 this 14).toInt = ((ss : Nat) : Int) from by rw [(show zI s13 this 14 = v17 from ev17)]; omega) hsl9 (h6.resolve_left (fun q9 => by omega)).2) sub_gH_gHB (mwV k1372 k1374 k47 k92 k1375) ⟨rfl, by decide, by decide, by decide +kernel⟩ ⟨(Nat.le_of_ble_eq_true rfl), (Nat.le_of_ble_eq_true rfl)⟩ (hT.o20 (hT.k t_this (by decide))) rfl rfl hl.1 rfl (Nat.le_of_ble_eq_true rfl) dX6_choice_34 zroom.rf (fun x27 s28 H locs hφ hEs28 hT => ?_)
        have ev1 : zI s28 this 17 = v1 := ((hTo.k t_this (by decide)).eI hEs28 (by decide) rfl).trans ev1
        have ev4 : zI s28 this 15 = v4 := ((hTo.k t_this (by decide)).eI hEs28 (by decide) rfl).trans ev4
        have ev5 : zI s28 this 16 = v5 := ((hTo.k t_this (by decide)).eI hEs28 (by decide) rfl).trans ev5
        obtain ⟨f29, f30⟩ := hφ
        rw [hs2] at f29
        rcases f29 with ⟨u31, u32, u33⟩ | ⟨u31, u32, u33⟩
        · skip
          obtain ⟨v31, ev31⟩ : ∃ zz9 : Int32, zI s28 this 14 = zz9 := ⟨_, rfl⟩
          have qv31 : v31.toInt = (zI s28 this 14).toInt := by rw [ev31]
          rw [(show zI s28 this 14 = v31 from ev31)] at u33
          refine lv_if_eq (tgt := 44) hx hb dX6_choice_37 (by decide) (fun c9 => absurd (gi_eq c9) (by omega)) (fun _ => ?_)
          refine lv_iconst (v := 2) hx hb dX6_choice_40 (by decide) ?_
          refine lv_goto (tgt := 45) hx hb dX6_choice_41 (by decide) ?_
          refine lv_istore (lv' := [(7, .int 2), (0, .ref this), (1, .long x1), (3, .long x2), (5, .long x3)]) hx hb dX6_choice_45 hl (by decide) rfl (fun ls hl => ?_)
          refine lv_iload hx hb dX6_choice_47 (lv_at hl 0 rfl) ?_
          refine lv_iconst (v := (-1)) hx hb dX6_choice_49 (by decide) ?_
          refine lv_icmp_ne (tgt := 75) hx hb dX6_choice_50 (by decide) (fun _ => ?_) (fun c9 => absurd c9 (by decide))
          refine lv_iload hx hb dX6_choice_75 (lv_at hl 0 rfl) ?_
          subst hQ9
          exact t_i hx hb hr hlocks hT (Or.inr (Or.inr (Or.inl ⟨n2, ⟨((h6.resolve_left (fun q9 => by omega)).2).1, by rw [hss]; exact u32⟩, by rw [(show zI s28 this 14 = v31 from ev31), hss]; omega, by rw [(show zI s28 this 17 = v1 from ev1)]; omega, ((show zI s28 this 15 = v4 from ev4).trans zthis15.symm), ((show zI s28 this 16 = v5 from ev5).trans zthis16.symm)⟩))) dX6_choice_77
        · skip
          obtain ⟨v32, ev32⟩ : ∃ zz9 : Int32, zI s28 this 14 = zz9 := ⟨_, rfl⟩
          have qv32 : v32.toInt = (zI s28 this 14).toInt := by rw [ev32]
          rw [(show zI s28 this 14 = v32 from ev32)] at u33
          refine lv_if_eq (tgt := 44) hx hb dX6_choice_37 (by decide) (fun _ => ?_) (fun c9 => absurd (gi_ne c9) (by omega))
          refine lv_iconst (v := (-1)) hx hb dX6_choice_44 (by decide) ?_
          refine lv_istore (lv' := [(7, .int (-1)), (0, .ref this), (1, .long x1), (3, .long x2), (5, .long x3)]) hx hb dX6_choice_45 hl (by decide) rfl (fun ls hl => ?_)
          refine lv_iload hx hb dX6_choice_47 (lv_at hl 0 rfl) ?_
          refine lv_iconst (v := (-1)) hx hb dX6_choice_49 (by decide) ?_
          refine lv_icmp_ne (tgt := 75) hx hb dX6_choice_50 (by decide) (fun c9 => absurd (by decide) c9) (fun _ => ?_)
          refine lv_aload_n hx hb dX6_choice_53 rfl (lv_at hl 1 rfl) ?_
          refine va_get (D := κ.1) (ci := 6) (v := .int (zI s28 this 17)) (C := RX6) (T := TX6) (N := 27) hx hb hg inX6 hown hK (hT.o20 (hT.k t_this (by decide))).one 0 rfl rfl 17 (by decide) (hg _ k1236) (fun _ h9 => h9) rfl dX6_choice_54 ?_
          rw [ev1]
          refine lv_if_ne (tgt := 75) hx hb dX6_choice_57 (by decide) (fun c9 => absurd (gi_ne c9) (by omega)) (fun _ => ?_)
          refine lv_aload_n hx hb dX6_choice_60 rfl (lv_at hl 1 rfl) ?_
          have hTo := hT
          refine tVi (n := 0) (As := []) (rest := []) hx hb hml hown hg hT hK hX (X6s_here l κ s28 this  (hT.k t_this (by decide)) (hTX.tr (funext fun k => by rw [erT]; exact hT.eI trT (by decide) rfl rfl) (hT.eI t_this (by decide) rfl rfl)) (show (zI s28 this 14).toInt = ((ss : Nat) : Int) from by rw [(show zI s28 this 14 = v32 from ev32)]; omega) hsl9) sub_gH_gHB (mwV k1345 k1347 k42 k92 k1348) ⟨rfl, by decide, by decide, by decide +kernel⟩ ⟨(Nat.le_of_ble_eq_true rfl), (Nat.le_of_ble_eq_true rfl)⟩ (hT.o20 (hT.k t_this (by decide))) rfl rfl hl.1 rfl (Nat.le_of_ble_eq_true rfl) dX6_choice_61 zroom.rf (fun x33 s34 H locs hφ hEs34 hT => ?_)
          have ev1 : zI s34 this 17 = v1 := ((hTo.k t_this (by decide)).eI hEs34 (by decide) rfl).trans ev1
          have ev4 : zI s34 this 15 = v4 := ((hTo.k t_this (by decide)).eI hEs34 (by decide) rfl).trans ev4
          have ev5 : zI s34 this 16 = v5 := ((hTo.k t_this (by decide)).eI hEs34 (by decide) rfl).trans ev5
          obtain ⟨f35, f36⟩ := hφ
          rw [hs2] at f35
          obtain ⟨v37, ev37⟩ : ∃ zz9 : Int32, zI s34 this 14 = zz9 := ⟨_, rfl⟩
          have qv37 : v37.toInt = (zI s34 this 14).toInt := by rw [ev37]
          rw [(show zI s34 this 14 = v37 from ev37)] at f35
          refine lv_istore (lv' := [(8, .int x33), (7, .int (-1)), (0, .ref this), (1, .long x1), (3, .long x2), (5, .long x3)]) hx hb dX6_choice_64 hl (by decide) rfl (fun ls hl => ?_)
          refine lv_aload_n hx hb dX6_choice_66 rfl (lv_at hl 2 rfl) ?_
          refine lv_iconst (v := 1) hx hb dX6_choice_67 (by decide) ?_
          refine lv_aload_n hx hb dX6_choice_68 rfl (lv_at hl 2 rfl) ?_
          refine va_get (D := κ.1) (ci := 6) (v := .int (zI s34 this 14)) (C := RX6) (T := TX6) (N := 27) hx hb hg inX6 hown hK (hT.o20 (hT.k t_this (by decide))).one 0 rfl rfl 14 (by decide) (hg _ k1233) (fun _ h9 => h9) rfl dX6_choice_69 ?_
          rw [ev37]
          have cz38 : zI s34 this 17 = v1 := ev1
          have hTo := hT
          refine tVv (n := 2) (As := [.int 1, .int v37]) (rest := []) hx hb hml hown hg hT hK hX (X6s_wrong l κ s34 this 1 v37  (hT.k t_this (by decide)) ) sub_gB_gHB (mwV k1361 k1363 k45 k92 k1364) ⟨rfl, by decide, by decide, by decide +kernel⟩ ⟨(Nat.le_of_ble_eq_true rfl), (Nat.le_of_ble_eq_true rfl)⟩ (hT.o20 (hT.k t_this (by decide))) rfl rfl hl.1 rfl (Nat.le_of_ble_eq_true rfl) dX6_choice_72 zroom.rf (fun s40 H locs hφ hEs40 hT => ?_)
          have ev37 : zI s40 this 14 = v37 := ((hTo.k t_this (by decide)).eI hEs40 (by decide) rfl).trans ev37
          have f41 := hφ
          obtain ⟨wb91, wb92, wb93⟩ := (f41.resolve_left (fun q9 => by have z9 := q9.1; rw [cz38] at z9; omega)).2
          refine lv_iload hx hb dX6_choice_75 (lv_at hl 1 rfl) ?_
          subst hQ9
          exact t_i hx hb hr hlocks hT (Or.inr (Or.inr (Or.inr ⟨nm1, fun q9 => u12 (by rw [hss] at q9; exact q9.2), fun q9 => u22 (by rw [hss] at q9; exact q9.2), fun q9 => u32 (by rw [hss] at q9; exact q9.2), wb91, by rw [wb92]; exact n1, by rw [wb93, hss]; omega⟩))) dX6_choice_77
set_option maxHeartbeats 4000000 in
set_option maxRecDepth 100000 in
theorem X6s_begins (l : Launch) (κ : Kt) (σ0 : Gh) (this : Nat) (bt : Int32) {tc : Nat → Int} {Ln : Nat} {aa nb i : Nat} (t_this : zk σ0 this 20) (h0 : TXm κ σ0 this tc Ln) (h1 : (zI σ0 this 17).toInt = 0) (h2 : (zI σ0 this 14).toInt = (aa : Nat)) (h3 : aa ≤ Ln) (h4 : (zI σ0 this 23).toInt = (nb : Nat)) (h5 : nb < 16) (h6 : bt.toInt = (i : Nat)) (h7 : i < 4) : TC l yX6_begins cX6_begins 2 (some .boolean) 2 46 [.ref this, .int bt] κ σ0 (tqi κ gBe σ0 (fun (r : Int32) (τ : Gh) => ((nb.testBit i = true ∧ r.toInt = 0 ∧ (zI τ this 17).toInt = 1 ∧ (zI τ this 15).toInt = 3 ∧ (zI τ this 16).toInt = aa ∧ (zI τ this 23).toInt = nb) ∨ (nb.testBit i = false ∧ r.toInt = 1 ∧ (zI τ this 17).toInt = 0 ∧ (zI τ this 15 = zI σ0 this 15 ∧ zI τ this 16 = zI σ0 this 16) ∧ (zI τ this 23).toInt = (nb ||| 2 ^ i : Nat) ∧ (zI τ this 14).toInt = (uscn uisLe tc Ln aa : Nat))) ∧ (isB r))) := by
  refine TC.of gBe (by decide +kernel) (Nat.le_of_ble_eq_true rfl) ?_
  intro p e s m below meth c ls hcs hK hX hT hl
  obtain ⟨hx, hb, hr, hml, hown, hg, hlocks, hin⟩ := hcs
  have hown : s.vm.findClass RX6 = some m.cls := hown
  have hl : lv_has ls 2 [(0, .ref this), (1, .int bt)] := hl
  have hT0 := hT
  have n0 : (0 : Int32).toInt = 0 := by decide
  have n1 : (1 : Int32).toInt = 1 := by decide
  have n3 : (3 : Int32).toInt = 3 := by decide
  have bt_lo := Int32.le_toInt bt
  have bt_hi := Int32.toInt_lt bt
  generalize hQ9 : tQ _ _ _ _ _ _ = Q9
  have hTX := h0
  obtain ⟨rT, erT⟩ : ∃ z, kR κ this 12 = z := ⟨_, rfl⟩
  have trT : zk σ0 rT 23 := by rw [← erT]; exact hT0.ref t_this (by decide) (by decide) (by decide)
  have hpc : ∀ j, tc j = (zI σ0 rT j).toInt := by rw [← erT]; exact hTX.1
  have hLn : (zI σ0 this 13).toInt = Ln := hTX.2.1
  have hL7 : Ln ≤ 700 := hTX.2.2.1
  have hnn := hTX.2.2.2
  obtain ⟨v1, ev1⟩ : ∃ zz9 : Int32, zI σ0 this 17 = zz9 := ⟨_, rfl⟩
  have qv1 : v1.toInt = (zI σ0 this 17).toInt := by rw [ev1]
  have b2 : isB v1 := by have q9 : isB (zI σ0 this 17) := hT.P (hT.k t_this (by decide)) (by decide); rw [ev1] at q9; exact q9
  have b2t := isB_t b2
  obtain ⟨v3, ev3⟩ : ∃ zz9 : Int32, zI σ0 this 14 = zz9 := ⟨_, rfl⟩
  have qv3 : v3.toInt = (zI σ0 this 14).toInt := by rw [ev3]
  obtain ⟨v4, ev4⟩ : ∃ zz9 : Int32, zI σ0 this 23 = zz9 := ⟨_, rfl⟩
  have qv4 : v4.toInt = (zI σ0 this 23).toInt := by rw [ev4]
  obtain ⟨v5, ev5⟩ : ∃ zz9 : Int32, zI σ0 this 15 = zz9 := ⟨_, rfl⟩
  have qv5 : v5.toInt = (zI σ0 this 15).toInt := by rw [ev5]
  have zthis15 : zI σ0 this 15 = v5 := ev5
  obtain ⟨v6, ev6⟩ : ∃ zz9 : Int32, zI σ0 this 16 = zz9 := ⟨_, rfl⟩
  have qv6 : v6.toInt = (zI σ0 this 16).toInt := by rw [ev6]
  have zthis16 : zI σ0 this 16 = v6 := ev6
  have hb9 := bits_u (show v4.toInt = nb from by omega) h6 h5 h7
  refine lv_aload_n hx hb dX6_begins_0 rfl (lv_at hl 0 rfl) ?_
  refine va_get (D := κ.1) (ci := 6) (v := .int (zI σ0 this 23)) (C := RX6) (T := TX6) (N := 27) hx hb hg inX6 hown hK (hT.o20 (hT.k t_this (by decide))).one 0 rfl rfl 23 (by decide) (hg _ k1242) (fun _ h9 => h9) rfl dX6_begins_1 ?_
  rw [ev4]
  refine lv_iload_n hx hb dX6_begins_4 rfl (lv_at hl 1 rfl) ?_
  refine lv_ishr hx hb dX6_begins_5 ?_
  refine lv_topi (fun t7 ht7 => ?_)
  refine lv_iconst (v := 1) hx hb dX6_begins_6 (by decide) ?_
  refine lv_iand hx hb dX6_begins_7 ?_
  refine lv_topi (fun t8 ht8 => ?_)
  refine lv_iconst (v := 1) hx hb dX6_begins_8 (by decide) ?_
  have y9 : t8.toInt = (if nb.testBit i then 1 else 0) := by rw [ht8, ht7]; exact hb9.1
  rcases Bool.eq_false_or_eq_true (nb.testBit i) with hbt | hbt
  · skip
    have y9 : t8.toInt = 1 := by rw [y9, hbt]; rfl
    refine lv_icmp_ne (tgt := 23) hx hb dX6_begins_9 (by decide) (fun c9 => ?_) (fun c9 => ?_)
    · have c1 := gi_ne c9
      refine lv_aload_n hx hb dX6_begins_23 rfl (lv_at hl 0 rfl) ?_
      refine lv_dup hx hb dX6_begins_24 rfl ?_
      refine va_get (D := κ.1) (ci := 6) (v := .int (zI σ0 this 23)) (C := RX6) (T := TX6) (N := 27) hx hb hg inX6 hown hK (hT.o20 (hT.k t_this (by decide))).one 0 rfl rfl 23 (by decide) (hg _ k1242) (fun _ h9 => h9) rfl dX6_begins_25 ?_
      rw [ev4]
      refine lv_iconst (v := 1) hx hb dX6_begins_28 (by decide) ?_
      refine lv_iload_n hx hb dX6_begins_29 rfl (lv_at hl 1 rfl) ?_
      refine lv_ishl hx hb dX6_begins_30 ?_
      refine lv_topi (fun t9 ht9 => ?_)
      refine lv_ior hx hb dX6_begins_31 ?_
      refine lv_topi (fun t10 ht10 => ?_)
      have y10 : t10.toInt = (nb ||| 2 ^ i : Nat) := by rw [ht10, ht9]; exact hb9.2.1
      have hTo := hT
      refine pf20_23 hx hb hg hown hK hT (hT.k t_this (by decide)) rfl (hg _ k1242) dX6_begins_32 (fun H locs s11 hus11 hT => ?_)
      have ev1 : zI s11 this 17 = v1 := (zput_o hus11 (Or.inr (by decide))).trans ev1
      have ev3 : zI s11 this 14 = v3 := (zput_o hus11 (Or.inr (by decide))).trans ev3
      have ev5 : zI s11 this 15 = v5 := (zput_o hus11 (Or.inr (by decide))).trans ev5
      have ev6 : zI s11 this 16 = v6 := (zput_o hus11 (Or.inr (by decide))).trans ev6
      have e12 : zI s11 this 23 = t10 := zput_at hus11
      refine lv_aload_n hx hb dX6_begins_35 rfl (lv_at hl 0 rfl) ?_
      refine lv_aload_n hx hb dX6_begins_36 rfl (lv_at hl 0 rfl) ?_
      have hTo := hT
      refine tVi (n := 0) (As := []) (rest := [.ref this]) hx hb hml hown hg hT hK hX (X6s_wordEnd l κ s11 this  (hT.k t_this (by decide)) (hTX.tr (funext fun k => by rw [erT]; exact hT.eI trT (by decide) rfl rfl) (hT.eI t_this (by decide) rfl rfl)) (show (zI s11 this 14).toInt = ((aa : Nat) : Int) from by rw [(show zI s11 this 14 = v3 from ev3)]; omega) h3) sub_fE_gBe (mwV k1349 k1351 k43 k92 k1352) ⟨rfl, by decide, by decide, by decide +kernel⟩ ⟨(Nat.le_of_ble_eq_true rfl), (Nat.le_of_ble_eq_true rfl)⟩ (hT.o20 (hT.k t_this (by decide))) rfl rfl hl.1 rfl (Nat.le_of_ble_eq_true rfl) dX6_begins_37 zroom.rf (fun x13 s14 H locs hφ hEs14 hT => ?_)
      have ev1 : zI s14 this 17 = v1 := ((hTo.k t_this (by decide)).eI hEs14 (by decide) rfl).trans ev1
      have ev3 : zI s14 this 14 = v3 := ((hTo.k t_this (by decide)).eI hEs14 (by decide) rfl).trans ev3
      have ev5 : zI s14 this 15 = v5 := ((hTo.k t_this (by decide)).eI hEs14 (by decide) rfl).trans ev5
      have ev6 : zI s14 this 16 = v6 := ((hTo.k t_this (by decide)).eI hEs14 (by decide) rfl).trans ev6
      have e12 : zI s14 this 23 = t10 := ((hTo.k t_this (by decide)).eI hEs14 (by decide) rfl).trans e12
      have f15 := hφ
      have hTo := hT
      refine pf20_14 hx hb hg hown hK hT (hT.k t_this (by decide)) rfl (hg _ k1233) dX6_begins_40 (fun H locs s16 hus16 hT => ?_)
      have ev1 : zI s16 this 17 = v1 := (zput_o hus16 (Or.inr (by decide))).trans ev1
      have ev5 : zI s16 this 15 = v5 := (zput_o hus16 (Or.inr (by decide))).trans ev5
      have ev6 : zI s16 this 16 = v6 := (zput_o hus16 (Or.inr (by decide))).trans ev6
      have e12 : zI s16 this 23 = t10 := (zput_o hus16 (Or.inr (by decide))).trans e12
      have e17 : zI s16 this 14 = x13 := zput_at hus16
      refine lv_iconst (v := 1) hx hb dX6_begins_43 (by decide) ?_
      subst hQ9
      exact t_z hx hb hr isB1 hlocks hT ⟨by first | (exfalso; omega) | exact Or.inr ⟨hbt, n1, by rw [(show zI s16 this 17 = v1 from ev1)]; omega, ⟨((show zI s16 this 15 = v5 from ev5).trans zthis15.symm), ((show zI s16 this 16 = v6 from ev6).trans zthis16.symm)⟩, by rw [(show zI s16 this 23 = t10 from e12)]; omega, by rw [(show zI s16 this 14 = x13 from e17)]; omega⟩, isB1⟩ dX6_begins_44
    · have c2 := gi_eq c9
      refine lv_aload_n hx hb dX6_begins_12 rfl (lv_at hl 0 rfl) ?_
      refine lv_iconst (v := 3) hx hb dX6_begins_13 (by decide) ?_
      refine lv_aload_n hx hb dX6_begins_14 rfl (lv_at hl 0 rfl) ?_
      refine va_get (D := κ.1) (ci := 6) (v := .int (zI σ0 this 14)) (C := RX6) (T := TX6) (N := 27) hx hb hg inX6 hown hK (hT.o20 (hT.k t_this (by decide))).one 0 rfl rfl 14 (by decide) (hg _ k1233) (fun _ h9 => h9) rfl dX6_begins_15 ?_
      rw [ev3]
      have cz18 : zI σ0 this 17 = v1 := ev1
      have hTo := hT
      refine tVv (n := 2) (As := [.int 3, .int v3]) (rest := []) hx hb hml hown hg hT hK hX (X6s_wrong l κ σ0 this 3 v3  (hT.k t_this (by decide)) ) sub_gB_gBe (mwV k1361 k1363 k45 k92 k1364) ⟨rfl, by decide, by decide, by decide +kernel⟩ ⟨(Nat.le_of_ble_eq_true rfl), (Nat.le_of_ble_eq_true rfl)⟩ (hT.o20 (hT.k t_this (by decide))) rfl rfl hl.1 rfl (Nat.le_of_ble_eq_true rfl) dX6_begins_18 zroom.rf (fun s20 H locs hφ hEs20 hT => ?_)
      have ev3 : zI s20 this 14 = v3 := ((hTo.k t_this (by decide)).eI hEs20 (by decide) rfl).trans ev3
      have ev4 : zI s20 this 23 = v4 := ((hTo.k t_this (by decide)).eI hEs20 (by decide) rfl).trans ev4
      have f21 := hφ
      obtain ⟨wb91, wb92, wb93⟩ := (f21.resolve_left (fun q9 => by have z9 := q9.1; rw [cz18] at z9; omega)).2
      refine lv_iconst (v := 0) hx hb dX6_begins_21 (by decide) ?_
      subst hQ9
      exact t_z hx hb hr isB0 hlocks hT ⟨by first | (exfalso; omega) | exact Or.inl ⟨hbt, n0, wb91, by rw [wb92]; exact n3, by rw [wb93]; omega, by rw [(show zI s20 this 23 = v4 from ev4)]; omega⟩, isB0⟩ dX6_begins_22
  · skip
    have y9 : t8.toInt = 0 := by rw [y9, hbt]; rfl
    refine lv_icmp_ne (tgt := 23) hx hb dX6_begins_9 (by decide) (fun c9 => ?_) (fun c9 => ?_)
    · have c3 := gi_ne c9
      refine lv_aload_n hx hb dX6_begins_23 rfl (lv_at hl 0 rfl) ?_
      refine lv_dup hx hb dX6_begins_24 rfl ?_
      refine va_get (D := κ.1) (ci := 6) (v := .int (zI σ0 this 23)) (C := RX6) (T := TX6) (N := 27) hx hb hg inX6 hown hK (hT.o20 (hT.k t_this (by decide))).one 0 rfl rfl 23 (by decide) (hg _ k1242) (fun _ h9 => h9) rfl dX6_begins_25 ?_
      rw [ev4]
      refine lv_iconst (v := 1) hx hb dX6_begins_28 (by decide) ?_
      refine lv_iload_n hx hb dX6_begins_29 rfl (lv_at hl 1 rfl) ?_
      refine lv_ishl hx hb dX6_begins_30 ?_
      refine lv_topi (fun t22 ht22 => ?_)
      refine lv_ior hx hb dX6_begins_31 ?_
      refine lv_topi (fun t23 ht23 => ?_)
      have y10 : t23.toInt = (nb ||| 2 ^ i : Nat) := by rw [ht23, ht22]; exact hb9.2.1
      have hTo := hT
      refine pf20_23 hx hb hg hown hK hT (hT.k t_this (by decide)) rfl (hg _ k1242) dX6_begins_32 (fun H locs s24 hus24 hT => ?_)
      have ev1 : zI s24 this 17 = v1 := (zput_o hus24 (Or.inr (by decide))).trans ev1
      have ev3 : zI s24 this 14 = v3 := (zput_o hus24 (Or.inr (by decide))).trans ev3
      have ev5 : zI s24 this 15 = v5 := (zput_o hus24 (Or.inr (by decide))).trans ev5
      have ev6 : zI s24 this 16 = v6 := (zput_o hus24 (Or.inr (by decide))).trans ev6
      have e25 : zI s24 this 23 = t23 := zput_at hus24
      refine lv_aload_n hx hb dX6_begins_35 rfl (lv_at hl 0 rfl) ?_
      refine lv_aload_n hx hb dX6_begins_36 rfl (lv_at hl 0 rfl) ?_
      have hTo := hT
      refine tVi (n := 0) (As := []) (rest := [.ref this]) hx hb hml hown hg hT hK hX (X6s_wordEnd l κ s24 this  (hT.k t_this (by decide)) (hTX.tr (funext fun k => by rw [erT]; exact hT.eI trT (by decide) rfl rfl) (hT.eI t_this (by decide) rfl rfl)) (show (zI s24 this 14).toInt = ((aa : Nat) : Int) from by rw [(show zI s24 this 14 = v3 from ev3)]; omega) h3) sub_fE_gBe (mwV k1349 k1351 k43 k92 k1352) ⟨rfl, by decide, by decide, by decide +kernel⟩ ⟨(Nat.le_of_ble_eq_true rfl), (Nat.le_of_ble_eq_true rfl)⟩ (hT.o20 (hT.k t_this (by decide))) rfl rfl hl.1 rfl (Nat.le_of_ble_eq_true rfl) dX6_begins_37 zroom.rf (fun x26 s27 H locs hφ hEs27 hT => ?_)
      have ev1 : zI s27 this 17 = v1 := ((hTo.k t_this (by decide)).eI hEs27 (by decide) rfl).trans ev1
      have ev3 : zI s27 this 14 = v3 := ((hTo.k t_this (by decide)).eI hEs27 (by decide) rfl).trans ev3
      have ev5 : zI s27 this 15 = v5 := ((hTo.k t_this (by decide)).eI hEs27 (by decide) rfl).trans ev5
      have ev6 : zI s27 this 16 = v6 := ((hTo.k t_this (by decide)).eI hEs27 (by decide) rfl).trans ev6
      have e25 : zI s27 this 23 = t23 := ((hTo.k t_this (by decide)).eI hEs27 (by decide) rfl).trans e25
      have f28 := hφ
      have hTo := hT
      refine pf20_14 hx hb hg hown hK hT (hT.k t_this (by decide)) rfl (hg _ k1233) dX6_begins_40 (fun H locs s29 hus29 hT => ?_)
      have ev1 : zI s29 this 17 = v1 := (zput_o hus29 (Or.inr (by decide))).trans ev1
      have ev5 : zI s29 this 15 = v5 := (zput_o hus29 (Or.inr (by decide))).trans ev5
      have ev6 : zI s29 this 16 = v6 := (zput_o hus29 (Or.inr (by decide))).trans ev6
      have e25 : zI s29 this 23 = t23 := (zput_o hus29 (Or.inr (by decide))).trans e25
      have e30 : zI s29 this 14 = x26 := zput_at hus29
      refine lv_iconst (v := 1) hx hb dX6_begins_43 (by decide) ?_
      subst hQ9
      exact t_z hx hb hr isB1 hlocks hT ⟨by first | (exfalso; omega) | exact Or.inr ⟨hbt, n1, by rw [(show zI s29 this 17 = v1 from ev1)]; omega, ⟨((show zI s29 this 15 = v5 from ev5).trans zthis15.symm), ((show zI s29 this 16 = v6 from ev6).trans zthis16.symm)⟩, by rw [(show zI s29 this 23 = t23 from e25)]; omega, by rw [(show zI s29 this 14 = x26 from e30)]; omega⟩, isB1⟩ dX6_begins_44
    · have c4 := gi_eq c9
      refine lv_aload_n hx hb dX6_begins_12 rfl (lv_at hl 0 rfl) ?_
      refine lv_iconst (v := 3) hx hb dX6_begins_13 (by decide) ?_
      refine lv_aload_n hx hb dX6_begins_14 rfl (lv_at hl 0 rfl) ?_
      refine va_get (D := κ.1) (ci := 6) (v := .int (zI σ0 this 14)) (C := RX6) (T := TX6) (N := 27) hx hb hg inX6 hown hK (hT.o20 (hT.k t_this (by decide))).one 0 rfl rfl 14 (by decide) (hg _ k1233) (fun _ h9 => h9) rfl dX6_begins_15 ?_
      rw [ev3]
      have cz31 : zI σ0 this 17 = v1 := ev1
      have hTo := hT
      refine tVv (n := 2) (As := [.int 3, .int v3]) (rest := []) hx hb hml hown hg hT hK hX (X6s_wrong l κ σ0 this 3 v3  (hT.k t_this (by decide)) ) sub_gB_gBe (mwV k1361 k1363 k45 k92 k1364) ⟨rfl, by decide, by decide, by decide +kernel⟩ ⟨(Nat.le_of_ble_eq_true rfl), (Nat.le_of_ble_eq_true rfl)⟩ (hT.o20 (hT.k t_this (by decide))) rfl rfl hl.1 rfl (Nat.le_of_ble_eq_true rfl) dX6_begins_18 zroom.rf (fun s33 H locs hφ hEs33 hT => ?_)
      have ev3 : zI s33 this 14 = v3 := ((hTo.k t_this (by decide)).eI hEs33 (by decide) rfl).trans ev3
      have ev4 : zI s33 this 23 = v4 := ((hTo.k t_this (by decide)).eI hEs33 (by decide) rfl).trans ev4
      have f34 := hφ
      obtain ⟨wb91, wb92, wb93⟩ := (f34.resolve_left (fun q9 => by have z9 := q9.1; rw [cz31] at z9; omega)).2
      refine lv_iconst (v := 0) hx hb dX6_begins_21 (by decide) ?_
      subst hQ9
      exact t_z hx hb hr isB0 hlocks hT ⟨by first | (exfalso; omega) | exact Or.inl ⟨hbt, n0, wb91, by rw [wb92]; exact n3, by rw [wb93]; omega, by rw [(show zI s33 this 23 = v4 from ev4)]; omega⟩, isB0⟩ dX6_begins_22
