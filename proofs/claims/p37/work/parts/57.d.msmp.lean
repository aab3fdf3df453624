/-! What the reference reads: a sample -/
set_option maxHeartbeats 8000000 in
set_option maxRecDepth 100000 in
theorem X6s_sampleTold (l : Launch) (κ : Kt) (σ0 : Gh) (this : Nat) {tc : Nat → Int} {Ln : Nat} {sp nn : Nat} {vv : Int} (t_this : zk σ0 this 20) (h0 : TXm κ σ0 this tc Ln) (h1 : (zI σ0 this 17).toInt = 0) (h2 : (zI σ0 this 14).toInt = (sp : Nat)) (h3 : sp ≤ Ln) (h4 : uWd tc Ln 12 sp) (h5 : (zI σ0 this 18).toInt = (nn : Nat)) (h6 : nn ≤ 48) (h7 : (nn = 0 ∧ vv = -1) ∨ (0 < nn ∧ (zI σ0 (kR κ this 25) (nn - 1)).toInt = vv)) (h8 : -1 ≤ vv) (h9 : vv ≤ 9999) : TC l yX6_sampleTold cX6_sampleTold 2 none 2 49 [.ref this] κ σ0 (tqv κ gS2 σ0 (fun (τ : Gh) => (((zI τ this 17).toInt = 0 ∧ (∃ (s9 a9 : Nat) (v9 : Int), umGo (utkK tc Ln) (unxt tc Ln) (uvl tc Ln) (uWd tc Ln) sp nn vv s9 (nn + 1) v9 ∧ (zI τ this 14).toInt = (a9 : Nat) ∧ a9 ≤ Ln ∧ uscn uisBl tc Ln a9 = s9 ∧ (zI τ this 18).toInt = nn + 1 ∧ nn + 1 ≤ 48 ∧ (zI τ (kR κ this 25) nn).toInt = v9 ∧ v9 ≤ 9999 ∧ vv < v9) ∧ (∀ j, j < nn → zI τ (kR κ this 25) j = zI σ0 (kR κ this 25) j) ∧ (∀ j : Nat, j < nn → zI τ (kR κ this 26) j = zI σ0 (kR κ this 26) j) ∧ (zI τ (kR κ this 26) nn).toInt = uvq (utkK tc Ln) (unxt tc Ln) (uvl tc Ln) (unxt tc Ln sp) ∧ zI τ this 15 = zI σ0 this 15 ∧ zI τ this 16 = zI σ0 this 16) ∨ ((zI τ this 17).toInt = 1 ∧ 0 ≤ (zI τ this 18).toInt ∧ (zI τ this 18).toInt ≤ 48 ∧ ∃ co po : Int, umBad (utkK tc Ln) (unxt tc Ln) (uvl tc Ln) (uWd tc Ln) sp nn vv co po ∧ co ≠ 0 ∧ (zI τ this 15).toInt = co ∧ (zI τ this 16).toInt = po)))) := by
  refine TC.of gS2 (by decide +kernel) (Nat.le_of_ble_eq_true rfl) ?_
  intro p e s m below meth c ls hcs hK hX hT hl
  obtain ⟨hx, hb, hr, hml, hown, hg, hlocks, hin⟩ := hcs
  have hown : s.vm.findClass RX6 = some m.cls := hown
  have hl : lv_has ls 2 [(0, .ref this)] := hl
  have hT0 := hT
  have n0 : (0 : Int32).toInt = 0 := by decide
  have n1 : (1 : Int32).toInt = 1 := by decide
  have n4 : (4 : Int32).toInt = 4 := by decide
  have n45 : (45 : Int32).toInt = 45 := by decide
  have n48 : (48 : Int32).toInt = 48 := by decide
  have n9999 : (9999 : Int32).toInt = 9999 := by decide
  generalize hQ9 : tQ _ _ _ _ _ _ = Q9
  have hTX := h0
  obtain ⟨rT, erT⟩ : ∃ z, kR κ this 12 = z := ⟨_, rfl⟩
  have trT : zk σ0 rT 23 := by rw [← erT]; exact hT0.ref t_this (by decide) (by decide) (by decide)
  have hpc : ∀ j, tc j = (zI σ0 rT j).toInt := by rw [← erT]; exact hTX.1
  have hLn : (zI σ0 this 13).toInt = Ln := hTX.2.1
  have hL7 : Ln ≤ 700 := hTX.2.2.1
  have hnn := hTX.2.2.2
  obtain ⟨rQ, erQ⟩ : ∃ z, kR κ this 25 = z := ⟨_, rfl⟩
  have trQ : zk σ0 rQ 27 := by rw [← erQ]; exact hT0.ref t_this (by decide) (by decide) (by decide)
  obtain ⟨rV, erV⟩ : ∃ z, kR κ this 26 = z := ⟨_, rfl⟩
  have trV : zk σ0 rV 28 := by rw [← erV]; exact hT0.ref t_this (by decide) (by decide) (by decide)
  obtain ⟨v1, ev1⟩ : ∃ zz9 : Int32, zI σ0 this 17 = zz9 := ⟨_, rfl⟩
  have qv1 : v1.toInt = (zI σ0 this 17).toInt := by rw [ev1]
  have b2 : isB v1 := by have q9 : isB (zI σ0 this 17) := hT.P (hT.k t_this (by decide)) (by decide); rw [ev1] at q9; exact q9
  have b2t := isB_t b2
  obtain ⟨v3, ev3⟩ : ∃ zz9 : Int32, zI σ0 this 14 = zz9 := ⟨_, rfl⟩
  have qv3 : v3.toInt = (zI σ0 this 14).toInt := by rw [ev3]
  obtain ⟨v4, ev4⟩ : ∃ zz9 : Int32, zI σ0 this 18 = zz9 := ⟨_, rfl⟩
  have qv4 : v4.toInt = (zI σ0 this 18).toInt := by rw [ev4]
  obtain ⟨v5, ev5⟩ : ∃ zz9 : Int32, zI σ0 this 15 = zz9 := ⟨_, rfl⟩
  have qv5 : v5.toInt = (zI σ0 this 15).toInt := by rw [ev5]
  have zthis15 : zI σ0 this 15 = v5 := ev5
  obtain ⟨v6, ev6⟩ : ∃ zz9 : Int32, zI σ0 this 16 = zz9 := ⟨_, rfl⟩
  have qv6 : v6.toInt = (zI σ0 this 16).toInt := by rw [ev6]
  have zthis16 : zI σ0 this 16 = v6 := ev6
  have hE9 := utkE_word (uIsW_K h4.1 h4.2)
  rw [erQ] at h7
  have q0 : zI σ0 rQ = zI σ0 rQ := rfl
  have q0v : zI σ0 rV = zI σ0 rV := rfl
  refine lv_aload_n hx hb dX6_sampleTold_0 rfl (lv_at hl 0 rfl) ?_
  refine va_get (D := κ.1) (ci := 6) (v := .int (zI σ0 this 18)) (C := RX6) (T := TX6) (N := 27) hx hb hg inX6 hown hK (hT.o20 (hT.k t_this (by decide))).one 0 rfl rfl 18 (by decide) (hg _ k1237) (fun _ h9 => h9) rfl dX6_sampleTold_1 ?_
  rw [ev4]
  refine lv_bipush (v := 48) hx hb dX6_sampleTold_4 (by decide) ?_
  refine lv_icmp_ne (tgt := 19) hx hb dX6_sampleTold_6 (by decide) (fun c9 => ?_) (fun c9 => ?_)
  · have c1 := gi_ne c9
    have loop119 : ∀ (n9 : Nat) (ib : Int32) (u : Int32) (bb : Int32) (v2 : Int32) (H : Heap) (locs : List Loc) (sg : Gh) (ls : Array Slot), TS κ gS2 σ0 sg s H locs → (zI sg this 18 = v4) → (zI sg this 14 = u) → (zI sg this 17 = bb) → (zI sg this 24 = v2) → ((bb.toInt = 0 ∧ (utkK tc Ln (unxt tc Ln sp) = 2 ∧ vv < uvl tc Ln (unxt tc Ln sp)) ∧ utkK tc Ln (svq (utkK tc Ln) (unxt tc Ln) (unxt tc Ln sp)) = 2 ∧ u.toInt = (utkE tc Ln (svq (utkK tc Ln) (unxt tc Ln) (unxt tc Ln sp)) : Nat) ∧ zI sg this 15 = zI σ0 this 15 ∧ zI sg this 16 = zI σ0 this 16 ∧ (zI sg rQ nn).toInt = uvl tc Ln (unxt tc Ln sp) ∧ (∀ j : Nat, j < nn → zI sg rQ j = zI σ0 rQ j) ∧ ((ib.toInt = 1 ∧ utkK tc Ln (unxt tc Ln (unxt tc Ln sp)) = 4) ∨ (ib.toInt = 0 ∧ utkK tc Ln (unxt tc Ln (unxt tc Ln sp)) ≠ 4)) ∧ v2.toInt = uvl tc Ln (svq (utkK tc Ln) (unxt tc Ln) (unxt tc Ln sp))) ∨ (bb.toInt = 1 ∧ ∃ co po : Int, umBad (utkK tc Ln) (unxt tc Ln) (uvl tc Ln) (uWd tc Ln) sp nn vv co po ∧ co ≠ 0 ∧ (zI sg this 15).toInt = co ∧ (zI sg this 16).toInt = po)) → (zI sg rV = zI σ0 rV) → lv_has ls 2 [(1, .int ib), (0, .ref this)] → ((0 : Int)) < n9 → tW p l e 2 49 κ s m #[.ref this] below meth c H locs Q9 (F0 m 119 ls []) := by
      intro n9
      induction n9 with
      | zero =>
        intro ib u bb v2 H locs sg ls hT kthis_18 kthis_14 kthis_17 kthis_24 s3 q2 hl hm9
        exfalso
        omega
      | succ n9 ih9 =>
        have ih119 := ih9
        clear ih9
        intro ib u bb v2 H locs s7 ls hT kthis_18 kthis_14 kthis_17 kthis_24 s3 q2 hl hm9
        have b8 : isB (zI s7 this 17) := hT.P (hT.k t_this (by decide)) (by decide)
        rw [kthis_17] at b8
        have b8t := isB_t b8
        rcases s3 with ⟨g1, g2, g3, g4, g6, g7, g8, g9, gib, gv2⟩ | ⟨g1, co, po, z1, z2, z3, z4⟩
        · skip
          obtain ⟨v9, ev9⟩ : ∃ zz9 : Int32, zI s7 this 15 = zz9 := ⟨_, rfl⟩
          have qv9 : v9.toInt = (zI s7 this 15).toInt := by rw [ev9]
          have zthis15 : zI σ0 this 15 = v9 := g6.symm.trans ev9
          obtain ⟨v10, ev10⟩ : ∃ zz9 : Int32, zI s7 this 16 = zz9 := ⟨_, rfl⟩
          have qv10 : v10.toInt = (zI s7 this 16).toInt := by rw [ev10]
          have zthis16 : zI σ0 this 16 = v10 := g7.symm.trans ev10
          refine lv_aload_n hx hb dX6_sampleTold_119 rfl (lv_at hl 1 rfl) ?_
          refine va_get (D := κ.1) (ci := 6) (v := .ref (kR κ this 26)) (C := RX6) (T := TX6) (N := 27) hx hb hg inX6 hown hK (hT.o20 (hT.k t_this (by decide))).one 0 rfl rfl 26 (by decide) (hg _ k1245) (fun _ h9 => h9) rfl dX6_sampleTold_120 ?_
          rw [erV]
          refine lv_aload_n hx hb dX6_sampleTold_123 rfl (lv_at hl 1 rfl) ?_
          refine va_get (D := κ.1) (ci := 6) (v := .int (zI s7 this 18)) (C := RX6) (T := TX6) (N := 27) hx hb hg inX6 hown hK (hT.o20 (hT.k t_this (by decide))).one 0 rfl rfl 18 (by decide) (hg _ k1237) (fun _ h9 => h9) rfl dX6_sampleTold_124 ?_
          rw [kthis_18]
          refine lv_iload_n hx hb dX6_sampleTold_127 rfl (lv_at hl 0 rfl) ?_
          refine lv_if_eq (tgt := 139) hx hb dX6_sampleTold_128 (by decide) (fun c9 => ?_) (fun c9 => ?_)
          · have c2 := gi_eq c9
            refine lv_aload_n hx hb dX6_sampleTold_139 rfl (lv_at hl 1 rfl) ?_
            refine va_get (D := κ.1) (ci := 6) (v := .int (zI s7 this 24)) (C := RX6) (T := TX6) (N := 27) hx hb hg inX6 hown hK (hT.o20 (hT.k t_this (by decide))).one 0 rfl rfl 24 (by decide) (hg _ k1243) (fun _ h9 => h9) rfl dX6_sampleTold_140 ?_
            rw [kthis_24]
            have hTo := hT
            refine tasti (n := 48) hx hb hK hT (hT.k trV (by decide)) ⟨by decide, by decide⟩ (fun _ _ _ => rfl) (fun _ _ => trivial) (fun _ => rfl) (by omega) (by omega) dX6_sampleTold_143 (fun H locs s11 hus11 hT => ?_)
            have kthis_18 : zI s11 this 18 = v4 := (zput_o hus11 (Or.inl ((hTo.k t_this (by decide)).ne (hTo.k trV (by decide)) (by decide)))).trans kthis_18
            have kthis_14 : zI s11 this 14 = u := (zput_o hus11 (Or.inl ((hTo.k t_this (by decide)).ne (hTo.k trV (by decide)) (by decide)))).trans kthis_14
            have kthis_17 : zI s11 this 17 = bb := (zput_o hus11 (Or.inl ((hTo.k t_this (by decide)).ne (hTo.k trV (by decide)) (by decide)))).trans kthis_17
            have kthis_24 : zI s11 this 24 = v2 := (zput_o hus11 (Or.inl ((hTo.k t_this (by decide)).ne (hTo.k trV (by decide)) (by decide)))).trans kthis_24
            have ev9 : zI s11 this 15 = v9 := (zput_o hus11 (Or.inl ((hTo.k t_this (by decide)).ne (hTo.k trV (by decide)) (by decide)))).trans ev9
            have ev10 : zI s11 this 16 = v10 := (zput_o hus11 (Or.inl ((hTo.k t_this (by decide)).ne (hTo.k trV (by decide)) (by decide)))).trans ev10
            have Y12 : (zI s11 rQ nn).toInt = uvl tc Ln (unxt tc Ln sp) := by first | (rw [show zI s11 rQ = zI s7 rQ from zput_Io hus11 ((hTo.k trQ (by decide)).ne (hTo.k trV (by decide)) (by decide))]; exact g8) | rw [show zI s11 rQ = zI s7 rQ from zput_Io hus11 ((hTo.k trQ (by decide)).ne (hTo.k trV (by decide)) (by decide))]
            have Y13 : ∀ j : Nat, j < nn → zI s11 rQ j = zI σ0 rQ j := by first | (rw [show zI s11 rQ = zI s7 rQ from zput_Io hus11 ((hTo.k trQ (by decide)).ne (hTo.k trV (by decide)) (by decide))]; exact g9) | rw [show zI s11 rQ = zI s7 rQ from zput_Io hus11 ((hTo.k trQ (by decide)).ne (hTo.k trV (by decide)) (by decide))]
            have hq9 : uvq (utkK tc Ln) (unxt tc Ln) (uvl tc Ln) (unxt tc Ln sp) = (uvl tc Ln (svq (utkK tc Ln) (unxt tc Ln) (unxt tc Ln sp))) := (if_neg (show ¬ utkK tc Ln (unxt tc Ln (unxt tc Ln sp)) = 4 by omega))
            have w8 : ix v4 = nn := by unfold ix; omega
            have Y14 : (zI s11 rV nn).toInt = uvq (utkK tc Ln) (unxt tc Ln) (uvl tc Ln) (unxt tc Ln sp) := by rw [← w8, zput_at hus11, hq9]; omega
            have Y15 : ∀ j : Nat, j < nn → zI s11 rV j = zI σ0 rV j := fun j hj => by rw [zput_o hus11 (Or.inr (by omega)), q2]
            refine lv_aload_n hx hb dX6_sampleTold_144 rfl (lv_at hl 1 rfl) ?_
            have cz16 : zI s11 this 15 = v9 := ev9
            have cz17 : zI s11 this 16 = v10 := ev10
            have cz18 : zI s11 this 17 = bb := kthis_17
            have cz19 : zI s11 this 17 = bb := kthis_17
            have hTo := hT
            refine tVv (n := 0) (As := []) (rest := []) hx hb hml hown hg hT hK hX (X6s_ends l κ s11 this  (hT.k t_this (by decide)) (hTX.tr (funext fun k => by rw [erT]; exact hT.eI trT (by decide) rfl rfl) (hT.eI t_this (by decide) rfl rfl)) (show (zI s11 this 17).toInt = 0 → (zI s11 this 14).toInt = (utkE tc Ln (svq (utkK tc Ln) (unxt tc Ln) (unxt tc Ln sp)) : Nat) ∧ utkE tc Ln (svq (utkK tc Ln) (unxt tc Ln) (unxt tc Ln sp)) ≤ Ln from fun q9 => ⟨by rw [(show zI s11 this 14 = u from kthis_14)]; omega, utkE_le (svq_le (unxt_le h3))⟩)) sub_gHB_gS2 (mwV k1390 k1392 k49 k92 k1393) ⟨rfl, by decide, by decide, by decide +kernel⟩ ⟨(Nat.le_of_ble_eq_true rfl), (Nat.le_of_ble_eq_true rfl)⟩ (hT.o20 (hT.k t_this (by decide))) rfl rfl hl.1 rfl (Nat.le_of_ble_eq_true rfl) dX6_sampleTold_145 zroom.rf (fun s21 H locs hφ hEs21 hT => ?_)
            have kthis_18 : zI s21 this 18 = v4 := ((hTo.k t_this (by decide)).eI hEs21 (by decide) rfl).trans kthis_18
            have kthis_24 : zI s21 this 24 = v2 := ((hTo.k t_this (by decide)).eI hEs21 (by decide) rfl).trans kthis_24
            have Y22 : (zI s21 rQ nn).toInt = uvl tc Ln (unxt tc Ln sp) := by first | (rw [show zI s21 rQ = zI s11 rQ from funext fun k => (hTo.k trQ (by decide)).eI hEs21 (by decide) rfl]; exact Y12) | rw [show zI s21 rQ = zI s11 rQ from funext fun k => (hTo.k trQ (by decide)).eI hEs21 (by decide) rfl]
            have Y23 : ∀ j : Nat, j < nn → zI s21 rQ j = zI σ0 rQ j := by first | (rw [show zI s21 rQ = zI s11 rQ from funext fun k => (hTo.k trQ (by decide)).eI hEs21 (by decide) rfl]; exact Y13) | rw [show zI s21 rQ = zI s11 rQ from funext fun k => (hTo.k trQ (by decide)).eI hEs21 (by decide) rfl]
            have Y24 : ∀ j : Nat, j < nn → zI s21 rV j = zI σ0 rV j := by first | (rw [show zI s21 rV = zI s11 rV from funext fun k => (hTo.k trV (by decide)).eI hEs21 (by decide) rfl]; exact Y15) | rw [show zI s21 rV = zI s11 rV from funext fun k => (hTo.k trV (by decide)).eI hEs21 (by decide) rfl]
            have Y25 : (zI s21 rV nn).toInt = uvq (utkK tc Ln) (unxt tc Ln) (uvl tc Ln) (unxt tc Ln sp) := by first | (rw [show zI s21 rV = zI s11 rV from funext fun k => (hTo.k trV (by decide)).eI hEs21 (by decide) rfl]; exact Y14) | rw [show zI s21 rV = zI s11 rV from funext fun k => (hTo.k trV (by decide)).eI hEs21 (by decide) rfl]
            obtain ⟨f26, f27⟩ := hφ
            have d9 := f27 (show (zI s11 this 17).toInt = 0 from by rw [cz18]; omega)
            rw [show uscn uisBl tc Ln (utkE tc Ln (svq (utkK tc Ln) (unxt tc Ln) (unxt tc Ln sp))) = unxt tc Ln (svq (utkK tc Ln) (unxt tc Ln) (unxt tc Ln sp)) from rfl] at d9
            rcases d9 with ⟨d1, d2, d3, d4, d5⟩ | ⟨d1, d2, d3, d4⟩
            · skip
              obtain ⟨v28, ev28⟩ : ∃ zz9 : Int32, zI s21 this 17 = zz9 := ⟨_, rfl⟩
              have qv28 : v28.toInt = (zI s21 this 17).toInt := by rw [ev28]
              have b29 : isB v28 := by have q9 : isB (zI s21 this 17) := hT.P (hT.k t_this (by decide)) (by decide); rw [ev28] at q9; exact q9
              have b29t := isB_t b29
              rw [(show zI s21 this 17 = v28 from ev28)] at d2
              obtain ⟨v30, ev30⟩ : ∃ zz9 : Int32, zI s21 this 14 = zz9 := ⟨_, rfl⟩
              have qv30 : v30.toInt = (zI s21 this 14).toInt := by rw [ev30]
              rw [(show zI s21 this 14 = v30 from ev30)] at d5
              obtain ⟨v31, ev31⟩ : ∃ zz9 : Int32, zI s21 this 15 = zz9 := ⟨_, rfl⟩
              have qv31 : v31.toInt = (zI s21 this 15).toInt := by rw [ev31]
              have zthis15 : zI σ0 this 15 = v31 := zthis15.trans (cz16.symm.trans (d3.symm.trans ev31))
              obtain ⟨v32, ev32⟩ : ∃ zz9 : Int32, zI s21 this 16 = zz9 := ⟨_, rfl⟩
              have qv32 : v32.toInt = (zI s21 this 16).toInt := by rw [ev32]
              have zthis16 : zI σ0 this 16 = v32 := zthis16.trans (cz17.symm.trans (d4.symm.trans ev32))
              refine lv_aload_n hx hb dX6_sampleTold_148 rfl (lv_at hl 1 rfl) ?_
              refine lv_dup hx hb dX6_sampleTold_149 rfl ?_
              refine va_get (D := κ.1) (ci := 6) (v := .int (zI s21 this 18)) (C := RX6) (T := TX6) (N := 27) hx hb hg inX6 hown hK (hT.o20 (hT.k t_this (by decide))).one 0 rfl rfl 18 (by decide) (hg _ k1237) (fun _ h9 => h9) rfl dX6_sampleTold_150 ?_
              rw [kthis_18]
              refine lv_iconst (v := 1) hx hb dX6_sampleTold_153 (by decide) ?_
              refine lv_iadd hx hb dX6_sampleTold_154 ?_
              first | refine g_add (by omega) (by omega) (fun t33 ht33 => ?_) | refine lv_topi (fun t33 ht33 => ?_)
              have hTo := hT
              refine pf20_18 hx hb hg hown hK hT (hT.k t_this (by decide)) rfl (hg _ k1237) dX6_sampleTold_155 (fun H locs s34 hus34 hT => ?_)
              have kthis_24 : zI s34 this 24 = v2 := (zput_o hus34 (Or.inr (by decide))).trans kthis_24
              have ev28 : zI s34 this 17 = v28 := (zput_o hus34 (Or.inr (by decide))).trans ev28
              have ev30 : zI s34 this 14 = v30 := (zput_o hus34 (Or.inr (by decide))).trans ev30
              have ev31 : zI s34 this 15 = v31 := (zput_o hus34 (Or.inr (by decide))).trans ev31
              have ev32 : zI s34 this 16 = v32 := (zput_o hus34 (Or.inr (by decide))).trans ev32
              have Y35 : (zI s34 rQ nn).toInt = uvl tc Ln (unxt tc Ln sp) := by first | (rw [show zI s34 rQ = zI s21 rQ from zput_Io hus34 ((hTo.k trQ (by decide)).ne (hTo.k t_this (by decide)) (by decide))]; exact Y22) | rw [show zI s34 rQ = zI s21 rQ from zput_Io hus34 ((hTo.k trQ (by decide)).ne (hTo.k t_this (by decide)) (by decide))]
              have Y36 : ∀ j : Nat, j < nn → zI s34 rQ j = zI σ0 rQ j := by first | (rw [show zI s34 rQ = zI s21 rQ from zput_Io hus34 ((hTo.k trQ (by decide)).ne (hTo.k t_this (by decide)) (by decide))]; exact Y23) | rw [show zI s34 rQ = zI s21 rQ from zput_Io hus34 ((hTo.k trQ (by decide)).ne (hTo.k t_this (by decide)) (by decide))]
              have Y37 : ∀ j : Nat, j < nn → zI s34 rV j = zI σ0 rV j := by first | (rw [show zI s34 rV = zI s21 rV from zput_Io hus34 ((hTo.k trV (by decide)).ne (hTo.k t_this (by decide)) (by decide))]; exact Y24) | rw [show zI s34 rV = zI s21 rV from zput_Io hus34 ((hTo.k trV (by decide)).ne (hTo.k t_this (by decide)) (by decide))]
              have Y38 : (zI s34 rV nn).toInt = uvq (utkK tc Ln) (unxt tc Ln) (uvl tc Ln) (unxt tc Ln sp) := by first | (rw [show zI s34 rV = zI s21 rV from zput_Io hus34 ((hTo.k trV (by decide)).ne (hTo.k t_this (by decide)) (by decide))]; exact Y25) | rw [show zI s34 rV = zI s21 rV from zput_Io hus34 ((hTo.k trV (by decide)).ne (hTo.k t_this (by decide)) (by decide))]
              have e39 : zI s34 this 18 = t33 := zput_at hus34
              subst hQ9
              exact t_v hx hb hr hlocks hT (Or.inl ⟨by rw [(show zI s34 this 17 = v28 from ev28)]; omega, ⟨unxt tc Ln (unxt tc Ln (svq (utkK tc Ln) (unxt tc Ln) (unxt tc Ln sp))), utkE tc Ln (unxt tc Ln (svq (utkK tc Ln) (unxt tc Ln) (unxt tc Ln sp))), uvl tc Ln (unxt tc Ln sp), ⟨h4, by omega, g2.1, g2.2, by rw [svl_q]; exact g3, by rw [svl_q]; exact d1, by rw [svl_q], rfl, rfl⟩, by rw [(show zI s34 this 14 = v30 from ev30)]; omega, utkE_le (unxt_le (svq_le (unxt_le h3))), rfl, by rw [(show zI s34 this 18 = t33 from e39)]; omega, by omega, by rw [erQ]; exact Y35, (uvl_b g2.1).2, g2.2⟩, fun j hj => by rw [erQ]; exact Y36 j hj, (fun j hj => by rw [erV]; exact Y37 j hj), by rw [erV]; exact Y38, ((show zI s34 this 15 = v31 from ev31).trans zthis15.symm), ((show zI s34 this 16 = v32 from ev32).trans zthis16.symm)⟩) dX6_sampleTold_158
            · skip
              obtain ⟨v40, ev40⟩ : ∃ zz9 : Int32, zI s21 this 17 = zz9 := ⟨_, rfl⟩
              have qv40 : v40.toInt = (zI s21 this 17).toInt := by rw [ev40]
              have b41 : isB v40 := by have q9 : isB (zI s21 this 17) := hT.P (hT.k t_this (by decide)) (by decide); rw [ev40] at q9; exact q9
              have b41t := isB_t b41
              rw [(show zI s21 this 17 = v40 from ev40)] at d2
              obtain ⟨v42, ev42⟩ : ∃ zz9 : Int32, zI s21 this 15 = zz9 := ⟨_, rfl⟩
              have qv42 : v42.toInt = (zI s21 this 15).toInt := by rw [ev42]
              rw [(show zI s21 this 15 = v42 from ev42)] at d3
              obtain ⟨v43, ev43⟩ : ∃ zz9 : Int32, zI s21 this 16 = zz9 := ⟨_, rfl⟩
              have qv43 : v43.toInt = (zI s21 this 16).toInt := by rw [ev43]
              rw [(show zI s21 this 16 = v43 from ev43)] at d4
              refine lv_aload_n hx hb dX6_sampleTold_148 rfl (lv_at hl 1 rfl) ?_
              refine lv_dup hx hb dX6_sampleTold_149 rfl ?_
              refine va_get (D := κ.1) (ci := 6) (v := .int (zI s21 this 18)) (C := RX6) (T := TX6) (N := 27) hx hb hg inX6 hown hK (hT.o20 (hT.k t_this (by decide))).one 0 rfl rfl 18 (by decide) (hg _ k1237) (fun _ h9 => h9) rfl dX6_sampleTold_150 ?_
              rw [kthis_18]
              refine lv_iconst (v := 1) hx hb dX6_sampleTold_153 (by decide) ?_
              refine lv_iadd hx hb dX6_sampleTold_154 ?_
              first | refine g_add (by omega) (by omega) (fun t44 ht44 => ?_) | refine lv_topi (fun t44 ht44 => ?_)
              have hTo := hT
              refine pf20_18 hx hb hg hown hK hT (hT.k t_this (by decide)) rfl (hg _ k1237) dX6_sampleTold_155 (fun H locs s45 hus45 hT => ?_)
              have kthis_24 : zI s45 this 24 = v2 := (zput_o hus45 (Or.inr (by decide))).trans kthis_24
              have ev40 : zI s45 this 17 = v40 := (zput_o hus45 (Or.inr (by decide))).trans ev40
              have ev42 : zI s45 this 15 = v42 := (zput_o hus45 (Or.inr (by decide))).trans ev42
              have ev43 : zI s45 this 16 = v43 := (zput_o hus45 (Or.inr (by decide))).trans ev43
              have Y46 : (zI s45 rQ nn).toInt = uvl tc Ln (unxt tc Ln sp) := by first | (rw [show zI s45 rQ = zI s21 rQ from zput_Io hus45 ((hTo.k trQ (by decide)).ne (hTo.k t_this (by decide)) (by decide))]; exact Y22) | rw [show zI s45 rQ = zI s21 rQ from zput_Io hus45 ((hTo.k trQ (by decide)).ne (hTo.k t_this (by decide)) (by decide))]
              have Y47 : ∀ j : Nat, j < nn → zI s45 rQ j = zI σ0 rQ j := by first | (rw [show zI s45 rQ = zI s21 rQ from zput_Io hus45 ((hTo.k trQ (by decide)).ne (hTo.k t_this (by decide)) (by decide))]; exact Y23) | rw [show zI s45 rQ = zI s21 rQ from zput_Io hus45 ((hTo.k trQ (by decide)).ne (hTo.k t_this (by decide)) (by decide))]
              have Y48 : ∀ j : Nat, j < nn → zI s45 rV j = zI σ0 rV j := by first | (rw [show zI s45 rV = zI s21 rV from zput_Io hus45 ((hTo.k trV (by decide)).ne (hTo.k t_this (by decide)) (by decide))]; exact Y24) | rw [show zI s45 rV = zI s21 rV from zput_Io hus45 ((hTo.k trV (by decide)).ne (hTo.k t_this (by decide)) (by decide))]
              have Y49 : (zI s45 rV nn).toInt = uvq (utkK tc Ln) (unxt tc Ln) (uvl tc Ln) (unxt tc Ln sp) := by first | (rw [show zI s45 rV = zI s21 rV from zput_Io hus45 ((hTo.k trV (by decide)).ne (hTo.k t_this (by decide)) (by decide))]; exact Y25) | rw [show zI s45 rV = zI s21 rV from zput_Io hus45 ((hTo.k trV (by decide)).ne (hTo.k t_this (by decide)) (by decide))]
              have e50 : zI s45 this 18 = t44 := zput_at hus45
              subst hQ9
              exact t_v hx hb hr hlocks hT (Or.inr ⟨by rw [(show zI s45 this 17 = v40 from ev40)]; omega, by rw [(show zI s45 this 18 = t44 from e50)]; omega, by rw [(show zI s45 this 18 = t44 from e50)]; omega, 1, (unxt tc Ln (svq (utkK tc Ln) (unxt tc Ln) (unxt tc Ln sp)) : Nat), Or.inr (Or.inr ⟨h4, by omega, Or.inr (Or.inr ⟨g2.1, g2.2, Or.inr ⟨by rw [svl_q]; exact g3, by rw [svl_q]; exact d1, rfl, by rw [svl_q]⟩⟩)⟩), by decide, by rw [(show zI s45 this 15 = v42 from ev42)]; omega, by rw [(show zI s45 this 16 = v43 from ev43)]; omega⟩) dX6_sampleTold_158
          · have c3 := gi_ne c9
            refine lv_aload_n hx hb dX6_sampleTold_131 rfl (lv_at hl 1 rfl) ?_
            refine va_get (D := κ.1) (ci := 6) (v := .int (zI s7 this 24)) (C := RX6) (T := TX6) (N := 27) hx hb hg inX6 hown hK (hT.o20 (hT.k t_this (by decide))).one 0 rfl rfl 24 (by decide) (hg _ k1243) (fun _ h9 => h9) rfl dX6_sampleTold_132 ?_
            rw [kthis_24]
            refine lv_ineg hx hb dX6_sampleTold_135 ?_
            refine lv_topi (fun t51 ht51 => ?_)
            refine lv_goto (tgt := 143) hx hb dX6_sampleTold_136 (by decide) ?_
            have hTo := hT
            refine tasti (n := 48) hx hb hK hT (hT.k trV (by decide)) ⟨by decide, by decide⟩ (fun _ _ _ => rfl) (fun _ _ => trivial) (fun _ => rfl) (by omega) (by omega) dX6_sampleTold_143 (fun H locs s52 hus52 hT => ?_)
            have kthis_18 : zI s52 this 18 = v4 := (zput_o hus52 (Or.inl ((hTo.k t_this (by decide)).ne (hTo.k trV (by decide)) (by decide)))).trans kthis_18
            have kthis_14 : zI s52 this 14 = u := (zput_o hus52 (Or.inl ((hTo.k t_this (by decide)).ne (hTo.k trV (by decide)) (by decide)))).trans kthis_14
            have kthis_17 : zI s52 this 17 = bb := (zput_o hus52 (Or.inl ((hTo.k t_this (by decide)).ne (hTo.k trV (by decide)) (by decide)))).trans kthis_17
            have kthis_24 : zI s52 this 24 = v2 := (zput_o hus52 (Or.inl ((hTo.k t_this (by decide)).ne (hTo.k trV (by decide)) (by decide)))).trans kthis_24
            have ev9 : zI s52 this 15 = v9 := (zput_o hus52 (Or.inl ((hTo.k t_this (by decide)).ne (hTo.k trV (by decide)) (by decide)))).trans ev9
            have ev10 : zI s52 this 16 = v10 := (zput_o hus52 (Or.inl ((hTo.k t_this (by decide)).ne (hTo.k trV (by decide)) (by decide)))).trans ev10
            have Y53 : (zI s52 rQ nn).toInt = uvl tc Ln (unxt tc Ln sp) := by first | (rw [show zI s52 rQ = zI s7 rQ from zput_Io hus52 ((hTo.k trQ (by decide)).ne (hTo.k trV (by decide)) (by decide))]; exact g8) | rw [show zI s52 rQ = zI s7 rQ from zput_Io hus52 ((hTo.k trQ (by decide)).ne (hTo.k trV (by decide)) (by decide))]
            have Y54 : ∀ j : Nat, j < nn → zI s52 rQ j = zI σ0 rQ j := by first | (rw [show zI s52 rQ = zI s7 rQ from zput_Io hus52 ((hTo.k trQ (by decide)).ne (hTo.k trV (by decide)) (by decide))]; exact g9) | rw [show zI s52 rQ = zI s7 rQ from zput_Io hus52 ((hTo.k trQ (by decide)).ne (hTo.k trV (by decide)) (by decide))]
            have hq9 : uvq (utkK tc Ln) (unxt tc Ln) (uvl tc Ln) (unxt tc Ln sp) = -(uvl tc Ln (svq (utkK tc Ln) (unxt tc Ln) (unxt tc Ln sp))) := (if_pos (show utkK tc Ln (unxt tc Ln (unxt tc Ln sp)) = 4 by omega))
            have w8 : ix v4 = nn := by unfold ix; omega
            have Y55 : (zI s52 rV nn).toInt = uvq (utkK tc Ln) (unxt tc Ln) (uvl tc Ln) (unxt tc Ln sp) := by rw [← w8, zput_at hus52, hq9]; omega
            have Y56 : ∀ j : Nat, j < nn → zI s52 rV j = zI σ0 rV j := fun j hj => by rw [zput_o hus52 (Or.inr (by omega)), q2]
            refine lv_aload_n hx hb dX6_sampleTold_144 rfl (lv_at hl 1 rfl) ?_
            have cz57 : zI s52 this 15 = v9 := ev9
            have cz58 : zI s52 this 16 = v10 := ev10
            have cz59 : zI s52 this 17 = bb := kthis_17
            have cz60 : zI s52 this 17 = bb := kthis_17
            have hTo := hT
            refine tVv (n := 0) (As := []) (rest := []) hx hb hml hown hg hT hK hX (X6s_ends l κ s52 this  (hT.k t_this (by decide)) (hTX.tr (funext fun k => by rw [erT]; exact hT.eI trT (by decide) rfl rfl) (hT.eI t_this (by decide) rfl rfl)) (show (zI s52 this 17).toInt = 0 → (zI s52 this 14).toInt = (utkE tc Ln (svq (utkK tc Ln) (unxt tc Ln) (unxt tc Ln sp)) : Nat) ∧ utkE tc Ln (svq (utkK tc Ln) (unxt tc Ln) (unxt tc Ln sp)) ≤ Ln from fun q9 => ⟨by rw [(show zI s52 this 14 = u from kthis_14)]; omega, utkE_le (svq_le (unxt_le h3))⟩)) sub_gHB_gS2 (mwV k1390 k1392 k49 k92 k1393) ⟨rfl, by decide, by decide, by decide +kernel⟩ ⟨(Nat.le_of_ble_eq_true rfl), (Nat.le_of_ble_eq_true rfl)⟩ (hT.o20 (hT.k t_this (by decide))) rfl rfl hl.1 rfl (Nat.le_of_ble_eq_true rfl) dX6_sampleTold_145 zroom.rf (fun s62 H locs hφ hEs62 hT => ?_)
            have kthis_18 : zI s62 this 18 = v4 := ((hTo.k t_this (by decide)).eI hEs62 (by decide) rfl).trans kthis_18
            have kthis_24 : zI s62 this 24 = v2 := ((hTo.k t_this (by decide)).eI hEs62 (by decide) rfl).trans kthis_24
            have Y63 : (zI s62 rQ nn).toInt = uvl tc Ln (unxt tc Ln sp) := by first | (rw [show zI s62 rQ = zI s52 rQ from funext fun k => (hTo.k trQ (by decide)).eI hEs62 (by decide) rfl]; exact Y53) | rw [show zI s62 rQ = zI s52 rQ from funext fun k => (hTo.k trQ (by decide)).eI hEs62 (by decide) rfl]
            have Y64 : ∀ j : Nat, j < nn → zI s62 rQ j = zI σ0 rQ j := by first | (rw [show zI s62 rQ = zI s52 rQ from funext fun k => (hTo.k trQ (by decide)).eI hEs62 (by decide) rfl]; exact Y54) | rw [show zI s62 rQ = zI s52 rQ from funext fun k => (hTo.k trQ (by decide)).eI hEs62 (by decide) rfl]
            have Y65 : ∀ j : Nat, j < nn → zI s62 rV j = zI σ0 rV j := by first | (rw [show zI s62 rV = zI s52 rV from funext fun k => (hTo.k trV (by decide)).eI hEs62 (by decide) rfl]; exact Y56) | rw [show zI s62 rV = zI s52 rV from funext fun k => (hTo.k trV (by decide)).eI hEs62 (by decide) rfl]
            have Y66 : (zI s62 rV nn).toInt = uvq (utkK tc Ln) (unxt tc Ln) (uvl tc Ln) (unxt tc Ln sp) := by first | (rw [show zI s62 rV = zI s52 rV from funext fun k => (hTo.k trV (by decide)).eI hEs62 (by decide) rfl]; exact Y55) | rw [show zI s62 rV = zI s52 rV from funext fun k => (hTo.k trV (by decide)).eI hEs62 (by decide) rfl]
            obtain ⟨f67, f68⟩ := hφ
            have d9 := f68 (show (zI s52 this 17).toInt = 0 from by rw [cz59]; omega)
            rw [show uscn uisBl tc Ln (utkE tc Ln (svq (utkK tc Ln) (unxt tc Ln) (unxt tc Ln sp))) = unxt tc Ln (svq (utkK tc Ln) (unxt tc Ln) (unxt tc Ln sp)) from rfl] at d9
            rcases d9 with ⟨d1, d2, d3, d4, d5⟩ | ⟨d1, d2, d3, d4⟩
            · skip
              obtain ⟨v69, ev69⟩ : ∃ zz9 : Int32, zI s62 this 17 = zz9 := ⟨_, rfl⟩
              have qv69 : v69.toInt = (zI s62 this 17).toInt := by rw [ev69]
              have b70 : isB v69 := by have q9 : isB (zI s62 this 17) := hT.P (hT.k t_this (by decide)) (by decide); rw [ev69] at q9; exact q9
              have b70t := isB_t b70
              rw [(show zI s62 this 17 = v69 from ev69)] at d2
              obtain ⟨v71, ev71⟩ : ∃ zz9 : Int32, zI s62 this 14 = zz9 := ⟨_, rfl⟩
              have qv71 : v71.toInt = (zI s62 this 14).toInt := by rw [ev71]
              rw [(show zI s62 this 14 = v71 from ev71)] at d5
              obtain ⟨v72, ev72⟩ : ∃ zz9 : Int32, zI s62 this 15 = zz9 := ⟨_, rfl⟩
              have qv72 : v72.toInt = (zI s62 this 15).toInt := by rw [ev72]
              have zthis15 : zI σ0 this 15 = v72 := zthis15.trans (cz57.symm.trans (d3.symm.trans ev72))
              obtain ⟨v73, ev73⟩ : ∃ zz9 : Int32, zI s62 this 16 = zz9 := ⟨_, rfl⟩
              have qv73 : v73.toInt = (zI s62 this 16).toInt := by rw [ev73]
              have zthis16 : zI σ0 this 16 = v73 := zthis16.trans (cz58.symm.trans (d4.symm.trans ev73))
              refine lv_aload_n hx hb dX6_sampleTold_148 rfl (lv_at hl 1 rfl) ?_
              refine lv_dup hx hb dX6_sampleTold_149 rfl ?_
              refine va_get (D := κ.1) (ci := 6) (v := .int (zI s62 this 18)) (C := RX6) (T := TX6) (N := 27) hx hb hg inX6 hown hK (hT.o20 (hT.k t_this (by decide))).one 0 rfl rfl 18 (by decide) (hg _ k1237) (fun _ h9 => h9) rfl dX6_sampleTold_150 ?_
              rw [kthis_18]
              refine lv_iconst (v := 1) hx hb dX6_sampleTold_153 (by decide) ?_
              refine lv_iadd hx hb dX6_sampleTold_154 ?_
              first | refine g_add (by omega) (by omega) (fun t74 ht74 => ?_) | refine lv_topi (fun t74 ht74 => ?_)
              have hTo := hT
              refine pf20_18 hx hb hg hown hK hT (hT.k t_this (by decide)) rfl (hg _ k1237) dX6_sampleTold_155 (fun H locs s75 hus75 hT => ?_)
              have kthis_24 : zI s75 this 24 = v2 := (zput_o hus75 (Or.inr (by decide))).trans kthis_24
              have ev69 : zI s75 this 17 = v69 := (zput_o hus75 (Or.inr (by decide))).trans ev69
              have ev71 : zI s75 this 14 = v71 := (zput_o hus75 (Or.inr (by decide))).trans ev71
              have ev72 : zI s75 this 15 = v72 := (zput_o hus75 (Or.inr (by decide))).trans ev72
              have ev73 : zI s75 this 16 = v73 := (zput_o hus75 (Or.inr (by decide))).trans ev73
              have Y76 : (zI s75 rQ nn).toInt = uvl tc Ln (unxt tc Ln sp) := by first | (rw [show zI s75 rQ = zI s62 rQ from zput_Io hus75 ((hTo.k trQ (by decide)).ne (hTo.k t_this (by decide)) (by decide))]; exact Y63) | rw [show zI s75 rQ = zI s62 rQ from zput_Io hus75 ((hTo.k trQ (by decide)).ne (hTo.k t_this (by decide)) (by decide))]
              have Y77 : ∀ j : Nat, j < nn → zI s75 rQ j = zI σ0 rQ j := by first | (rw [show zI s75 rQ = zI s62 rQ from zput_Io hus75 ((hTo.k trQ (by decide)).ne (hTo.k t_this (by decide)) (by decide))]; exact Y64) | rw [show zI s75 rQ = zI s62 rQ from zput_Io hus75 ((hTo.k trQ (by decide)).ne (hTo.k t_this (by decide)) (by decide))]
              have Y78 : ∀ j : Nat, j < nn → zI s75 rV j = zI σ0 rV j := by first | (rw [show zI s75 rV = zI s62 rV from zput_Io hus75 ((hTo.k trV (by decide)).ne (hTo.k t_this (by decide)) (by decide))]; exact Y65) | rw [show zI s75 rV = zI s62 rV from zput_Io hus75 ((hTo.k trV (by decide)).ne (hTo.k t_this (by decide)) (by decide))]
              have Y79 : (zI s75 rV nn).toInt = uvq (utkK tc Ln) (unxt tc Ln) (uvl tc Ln) (unxt tc Ln sp) := by first | (rw [show zI s75 rV = zI s62 rV from zput_Io hus75 ((hTo.k trV (by decide)).ne (hTo.k t_this (by decide)) (by decide))]; exact Y66) | rw [show zI s75 rV = zI s62 rV from zput_Io hus75 ((hTo.k trV (by decide)).ne (hTo.k t_this (by decide)) (by decide))]
              have e80 : zI s75 this 18 = t74 := zput_at hus75
              subst hQ9
              exact t_v hx hb hr hlocks hT (Or.inl ⟨by rw [(show zI s75 this 17 = v69 from ev69)]; omega, ⟨unxt tc Ln (unxt tc Ln (svq (utkK tc Ln) (unxt tc Ln) (unxt tc Ln sp))), utkE tc Ln (unxt tc Ln (svq (utkK tc Ln) (unxt tc Ln) (unxt tc Ln sp))), uvl tc Ln (unxt tc Ln sp), ⟨h4, by omega, g2.1, g2.2, by rw [svl_q]; exact g3, by rw [svl_q]; exact d1, by rw [svl_q], rfl, rfl⟩, by rw [(show zI s75 this 14 = v71 from ev71)]; omega, utkE_le (unxt_le (svq_le (unxt_le h3))), rfl, by rw [(show zI s75 this 18 = t74 from e80)]; omega, by omega, by rw [erQ]; exact Y76, (uvl_b g2.1).2, g2.2⟩, fun j hj => by rw [erQ]; exact Y77 j hj, (fun j hj => by rw [erV]; exact Y78 j hj), by rw [erV]; exact Y79, ((show zI s75 this 15 = v72 from ev72).trans zthis15.symm), ((show zI s75 this 16 = v73 from ev73).trans zthis16.symm)⟩) dX6_sampleTold_158
            · skip
              obtain ⟨v81, ev81⟩ : ∃ zz9 : Int32, zI s62 this 17 = zz9 := ⟨_, rfl⟩
              have qv81 : v81.toInt = (zI s62 this 17).toInt := by rw [ev81]
              have b82 : isB v81 := by have q9 : isB (zI s62 this 17) := hT.P (hT.k t_this (by decide)) (by decide); rw [ev81] at q9; exact q9
              have b82t := isB_t b82
              rw [(show zI s62 this 17 = v81 from ev81)] at d2
              obtain ⟨v83, ev83⟩ : ∃ zz9 : Int32, zI s62 this 15 = zz9 := ⟨_, rfl⟩
              have qv83 : v83.toInt = (zI s62 this 15).toInt := by rw [ev83]
              rw [(show zI s62 this 15 = v83 from ev83)] at d3
              obtain ⟨v84, ev84⟩ : ∃ zz9 : Int32, zI s62 this 16 = zz9 := ⟨_, rfl⟩
              have qv84 : v84.toInt = (zI s62 this 16).toInt := by rw [ev84]
              rw [(show zI s62 this 16 = v84 from ev84)] at d4
              refine lv_aload_n hx hb dX6_sampleTold_148 rfl (lv_at hl 1 rfl) ?_
              refine lv_dup hx hb dX6_sampleTold_149 rfl ?_
              refine va_get (D := κ.1) (ci := 6) (v := .int (zI s62 this 18)) (C := RX6) (T := TX6) (N := 27) hx hb hg inX6 hown hK (hT.o20 (hT.k t_this (by decide))).one 0 rfl rfl 18 (by decide) (hg _ k1237) (fun _ h9 => h9) rfl dX6_sampleTold_150 ?_
              rw [kthis_18]
              refine lv_iconst (v := 1) hx hb dX6_sampleTold_153 (by decide) ?_
              refine lv_iadd hx hb dX6_sampleTold_154 ?_
              first | refine g_add (by omega) (by omega) (fun t85 ht85 => ?_) | refine lv_topi (fun t85 ht85 => ?_)
              have hTo := hT
              refine pf20_18 hx hb hg hown hK hT (hT.k t_this (by decide)) rfl (hg _ k1237) dX6_sampleTold_155 (fun H locs s86 hus86 hT => ?_)
              have kthis_24 : zI s86 this 24 = v2 := (zput_o hus86 (Or.inr (by decide))).trans kthis_24
              have ev81 : zI s86 this 17 = v81 := (zput_o hus86 (Or.inr (by decide))).trans ev81
              have ev83 : zI s86 this 15 = v83 := (zput_o hus86 (Or.inr (by decide))).trans ev83
              have ev84 : zI s86 this 16 = v84 := (zput_o hus86 (Or.inr (by decide))).trans ev84
              have Y87 : (zI s86 rQ nn).toInt = uvl tc Ln (unxt tc Ln sp) := by first | (rw [show zI s86 rQ = zI s62 rQ from zput_Io hus86 ((hTo.k trQ (by decide)).ne (hTo.k t_this (by decide)) (by decide))]; exact Y63) | rw [show zI s86 rQ = zI s62 rQ from zput_Io hus86 ((hTo.k trQ (by decide)).ne (hTo.k t_this (by decide)) (by decide))]
              have Y88 : ∀ j : Nat, j < nn → zI s86 rQ j = zI σ0 rQ j := by first | (rw [show zI s86 rQ = zI s62 rQ from zput_Io hus86 ((hTo.k trQ (by decide)).ne (hTo.k t_this (by decide)) (by decide))]; exact Y64) | rw [show zI s86 rQ = zI s62 rQ from zput_Io hus86 ((hTo.k trQ (by decide)).ne (hTo.k t_this (by decide)) (by decide))]
              have Y89 : ∀ j : Nat, j < nn → zI s86 rV j = zI σ0 rV j := by first | (rw [show zI s86 rV = zI s62 rV from zput_Io hus86 ((hTo.k trV (by decide)).ne (hTo.k t_this (by decide)) (by decide))]; exact Y65) | rw [show zI s86 rV = zI s62 rV from zput_Io hus86 ((hTo.k trV (by decide)).ne (hTo.k t_this (by decide)) (by decide))]
              have Y90 : (zI s86 rV nn).toInt = uvq (utkK tc Ln) (unxt tc Ln) (uvl tc Ln) (unxt tc Ln sp) := by first | (rw [show zI s86 rV = zI s62 rV from zput_Io hus86 ((hTo.k trV (by decide)).ne (hTo.k t_this (by decide)) (by decide))]; exact Y66) | rw [show zI s86 rV = zI s62 rV from zput_Io hus86 ((hTo.k trV (by decide)).ne (hTo.k t_this (by decide)) (by decide))]
              have e91 : zI s86 this 18 = t85 := zput_at hus86
              subst hQ9
              exact t_v hx hb hr hlocks hT (Or.inr ⟨by rw [(show zI s86 this 17 = v81 from ev81)]; omega, by rw [(show zI s86 this 18 = t85 from e91)]; omega, by rw [(show zI s86 this 18 = t85 from e91)]; omega, 1, (unxt tc Ln (svq (utkK tc Ln) (unxt tc Ln) (unxt tc Ln sp)) : Nat), Or.inr (Or.inr ⟨h4, by omega, Or.inr (Or.inr ⟨g2.1, g2.2, Or.inr ⟨by rw [svl_q]; exact g3, by rw [svl_q]; exact d1, rfl, by rw [svl_q]⟩⟩)⟩), by decide, by rw [(show zI s86 this 15 = v83 from ev83)]; omega, by rw [(show zI s86 this 16 = v84 from ev84)]; omega⟩) dX6_sampleTold_158
        · skip
          obtain ⟨v92, ev92⟩ : ∃ zz9 : Int32, zI s7 this 15 = zz9 := ⟨_, rfl⟩
          have qv92 : v92.toInt = (zI s7 this 15).toInt := by rw [ev92]
          rw [(show zI s7 this 15 = v92 from ev92)] at z3
          obtain ⟨v93, ev93⟩ : ∃ zz9 : Int32, zI s7 this 16 = zz9 := ⟨_, rfl⟩
          have qv93 : v93.toInt = (zI s7 this 16).toInt := by rw [ev93]
          rw [(show zI s7 this 16 = v93 from ev93)] at z4
          refine lv_aload_n hx hb dX6_sampleTold_119 rfl (lv_at hl 1 rfl) ?_
          refine va_get (D := κ.1) (ci := 6) (v := .ref (kR κ this 26)) (C := RX6) (T := TX6) (N := 27) hx hb hg inX6 hown hK (hT.o20 (hT.k t_this (by decide))).one 0 rfl rfl 26 (by decide) (hg _ k1245) (fun _ h9 => h9) rfl dX6_sampleTold_120 ?_
          rw [erV]
          refine lv_aload_n hx hb dX6_sampleTold_123 rfl (lv_at hl 1 rfl) ?_
          refine va_get (D := κ.1) (ci := 6) (v := .int (zI s7 this 18)) (C := RX6) (T := TX6) (N := 27) hx hb hg inX6 hown hK (hT.o20 (hT.k t_this (by decide))).one 0 rfl rfl 18 (by decide) (hg _ k1237) (fun _ h9 => h9) rfl dX6_sampleTold_124 ?_
          rw [kthis_18]
          refine lv_iload_n hx hb dX6_sampleTold_127 rfl (lv_at hl 0 rfl) ?_
          refine lv_if_eq (tgt := 139) hx hb dX6_sampleTold_128 (by decide) (fun c9 => ?_) (fun c9 => ?_)
          · have c4 := gi_eq c9
            refine lv_aload_n hx hb dX6_sampleTold_139 rfl (lv_at hl 1 rfl) ?_
            refine va_get (D := κ.1) (ci := 6) (v := .int (zI s7 this 24)) (C := RX6) (T := TX6) (N := 27) hx hb hg inX6 hown hK (hT.o20 (hT.k t_this (by decide))).one 0 rfl rfl 24 (by decide) (hg _ k1243) (fun _ h9 => h9) rfl dX6_sampleTold_140 ?_
            rw [kthis_24]
            have hTo := hT
            refine tasti (n := 48) hx hb hK hT (hT.k trV (by decide)) ⟨by decide, by decide⟩ (fun _ _ _ => rfl) (fun _ _ => trivial) (fun _ => rfl) (by omega) (by omega) dX6_sampleTold_143 (fun H locs s94 hus94 hT => ?_)
            have kthis_18 : zI s94 this 18 = v4 := (zput_o hus94 (Or.inl ((hTo.k t_this (by decide)).ne (hTo.k trV (by decide)) (by decide)))).trans kthis_18
            have kthis_14 : zI s94 this 14 = u := (zput_o hus94 (Or.inl ((hTo.k t_this (by decide)).ne (hTo.k trV (by decide)) (by decide)))).trans kthis_14
            have kthis_17 : zI s94 this 17 = bb := (zput_o hus94 (Or.inl ((hTo.k t_this (by decide)).ne (hTo.k trV (by decide)) (by decide)))).trans kthis_17
            have kthis_24 : zI s94 this 24 = v2 := (zput_o hus94 (Or.inl ((hTo.k t_this (by decide)).ne (hTo.k trV (by decide)) (by decide)))).trans kthis_24
            have ev92 : zI s94 this 15 = v92 := (zput_o hus94 (Or.inl ((hTo.k t_this (by decide)).ne (hTo.k trV (by decide)) (by decide)))).trans ev92
            have ev93 : zI s94 this 16 = v93 := (zput_o hus94 (Or.inl ((hTo.k t_this (by decide)).ne (hTo.k trV (by decide)) (by decide)))).trans ev93
            refine lv_aload_n hx hb dX6_sampleTold_144 rfl (lv_at hl 1 rfl) ?_
            have cz95 : zI s94 this 15 = v92 := ev92
            have cz96 : zI s94 this 16 = v93 := ev93
            have cz97 : zI s94 this 17 = bb := kthis_17
            have cz98 : zI s94 this 17 = bb := kthis_17
            have hTo := hT
            refine tVv (n := 0) (As := []) (rest := []) hx hb hml hown hg hT hK hX (X6s_ends l κ s94 this  (hT.k t_this (by decide)) (hTX.tr (funext fun k => by rw [erT]; exact hT.eI trT (by decide) rfl rfl) (hT.eI t_this (by decide) rfl rfl)) (show (zI s94 this 17).toInt = 0 → (zI s94 this 14).toInt = ((0 : Nat) : Int) ∧ 0 ≤ Ln from fun q9 => absurd q9 (by rw [(show zI s94 this 17 = bb from kthis_17)]; omega))) sub_gHB_gS2 (mwV k1390 k1392 k49 k92 k1393) ⟨rfl, by decide, by decide, by decide +kernel⟩ ⟨(Nat.le_of_ble_eq_true rfl), (Nat.le_of_ble_eq_true rfl)⟩ (hT.o20 (hT.k t_this (by decide))) rfl rfl hl.1 rfl (Nat.le_of_ble_eq_true rfl) dX6_sampleTold_145 zroom.rf (fun s100 H locs hφ hEs100 hT => ?_)
            have kthis_18 : zI s100 this 18 = v4 := ((hTo.k t_this (by decide)).eI hEs100 (by decide) rfl).trans kthis_18
            have kthis_24 : zI s100 this 24 = v2 := ((hTo.k t_this (by decide)).eI hEs100 (by decide) rfl).trans kthis_24
            obtain ⟨f101, f102⟩ := hφ
            obtain ⟨e103, e104, e105⟩ := f101 (show (zI s94 this 17).toInt = 1 from by rw [cz98]; omega)
            obtain ⟨v106, ev106⟩ : ∃ zz9 : Int32, zI s100 this 17 = zz9 := ⟨_, rfl⟩
            have qv106 : v106.toInt = (zI s100 this 17).toInt := by rw [ev106]
            have b107 : isB v106 := by have q9 : isB (zI s100 this 17) := hT.P (hT.k t_this (by decide)) (by decide); rw [ev106] at q9; exact q9
            have b107t := isB_t b107
            rw [(show zI s100 this 17 = v106 from ev106)] at e103
            rw [cz95] at e104
            rw [cz96] at e105
            refine lv_aload_n hx hb dX6_sampleTold_148 rfl (lv_at hl 1 rfl) ?_
            refine lv_dup hx hb dX6_sampleTold_149 rfl ?_
            refine va_get (D := κ.1) (ci := 6) (v := .int (zI s100 this 18)) (C := RX6) (T := TX6) (N := 27) hx hb hg inX6 hown hK (hT.o20 (hT.k t_this (by decide))).one 0 rfl rfl 18 (by decide) (hg _ k1237) (fun _ h9 => h9) rfl dX6_sampleTold_150 ?_
            rw [kthis_18]
            refine lv_iconst (v := 1) hx hb dX6_sampleTold_153 (by decide) ?_
            refine lv_iadd hx hb dX6_sampleTold_154 ?_
            first | refine g_add (by omega) (by omega) (fun t108 ht108 => ?_) | refine lv_topi (fun t108 ht108 => ?_)
            have hTo := hT
            refine pf20_18 hx hb hg hown hK hT (hT.k t_this (by decide)) rfl (hg _ k1237) dX6_sampleTold_155 (fun H locs s109 hus109 hT => ?_)
            have kthis_24 : zI s109 this 24 = v2 := (zput_o hus109 (Or.inr (by decide))).trans kthis_24
            have ev106 : zI s109 this 17 = v106 := (zput_o hus109 (Or.inr (by decide))).trans ev106
            have e104 : zI s109 this 15 = v92 := (zput_o hus109 (Or.inr (by decide))).trans e104
            have e105 : zI s109 this 16 = v93 := (zput_o hus109 (Or.inr (by decide))).trans e105
            have e110 : zI s109 this 18 = t108 := zput_at hus109
            subst hQ9
            exact t_v hx hb hr hlocks hT (Or.inr ⟨by rw [(show zI s109 this 17 = v106 from ev106)]; omega, by rw [(show zI s109 this 18 = t108 from e110)]; omega, by rw [(show zI s109 this 18 = t108 from e110)]; omega, co, po, z1, z2, by rw [(show zI s109 this 15 = v92 from e104)]; exact z3, by rw [(show zI s109 this 16 = v93 from e105)]; exact z4⟩) dX6_sampleTold_158
          · have c5 := gi_ne c9
            refine lv_aload_n hx hb dX6_sampleTold_131 rfl (lv_at hl 1 rfl) ?_
            refine va_get (D := κ.1) (ci := 6) (v := .int (zI s7 this 24)) (C := RX6) (T := TX6) (N := 27) hx hb hg inX6 hown hK (hT.o20 (hT.k t_this (by decide))).one 0 rfl rfl 24 (by decide) (hg _ k1243) (fun _ h9 => h9) rfl dX6_sampleTold_132 ?_
            rw [kthis_24]
            refine lv_ineg hx hb dX6_sampleTold_135 ?_
            refine lv_topi (fun t111 ht111 => ?_)
            refine lv_goto (tgt := 143) hx hb dX6_sampleTold_136 (by decide) ?_
            have hTo := hT
            refine tasti (n := 48) hx hb hK hT (hT.k trV (by decide)) ⟨by decide, by decide⟩ (fun _ _ _ => rfl) (fun _ _ => trivial) (fun _ => rfl) (by omega) (by omega) dX6_sampleTold_143 (fun H locs s112 hus112 hT => ?_)
            have kthis_18 : zI s112 this 18 = v4 := (zput_o hus112 (Or.inl ((hTo.k t_this (by decide)).ne (hTo.k trV (by decide)) (by decide)))).trans kthis_18
            have kthis_14 : zI s112 this 14 = u := (zput_o hus112 (Or.inl ((hTo.k t_this (by decide)).ne (hTo.k trV (by decide)) (by decide)))).trans kthis_14
            have kthis_17 : zI s112 this 17 = bb := (zput_o hus112 (Or.inl ((hTo.k t_this (by decide)).ne (hTo.k trV (by decide)) (by decide)))).trans kthis_17
            have kthis_24 : zI s112 this 24 = v2 := (zput_o hus112 (Or.inl ((hTo.k t_this (by decide)).ne (hTo.k trV (by decide)) (by decide)))).trans kthis_24
            have ev92 : zI s112 this 15 = v92 := (zput_o hus112 (Or.inl ((hTo.k t_this (by decide)).ne (hTo.k trV (by decide)) (by decide)))).trans ev92
            have ev93 : zI s112 this 16 = v93 := (zput_o hus112 (Or.inl ((hTo.k t_this (by decide)).ne (hTo.k trV (by decide)) (by decide)))).trans ev93
            refine lv_aload_n hx hb dX6_sampleTold_144 rfl (lv_at hl 1 rfl) ?_
            have cz113 : zI s112 this 15 = v92 := ev92
            have cz114 : zI s112 this 16 = v93 := ev93
            have cz115 : zI s112 this 17 = bb := kthis_17
            have cz116 : zI s112 this 17 = bb := kthis_17
            have hTo := hT
            refine tVv (n := 0) (As := []) (rest := []) hx hb hml hown hg hT hK hX (X6s_ends l κ s112 this  (hT.k t_this (by decide)) (hTX.tr (funext fun k => by rw [erT]; exact hT.eI trT (by decide) rfl rfl) (hT.eI t_this (by decide) rfl rfl)) (show (zI s112 this 17).toInt = 0 → (zI s112 this 14).toInt = ((0 : Nat) : Int) ∧ 0 ≤ Ln from fun q9 => absurd q9 (by rw [(show zI s112 this 17 = bb from kthis_17)]; omega))) sub_gHB_gS2 (mwV k1390 k1392 k49 k92 k1393) ⟨rfl, by decide, by decide, by decide +kernel⟩ ⟨(Nat.le_of_ble_eq_true rfl), (Nat.le_of_ble_eq_true rfl)⟩ (hT.o20 (hT.k t_this (by decide))) rfl rfl hl.1 rfl (Nat.le_of_ble_eq_true rfl) dX6_sampleTold_145 zroom.rf (fun s118 H locs hφ hEs118 hT => ?_)
            have kthis_18 : zI s118 this 18 = v4 := ((hTo.k t_this (by decide)).eI hEs118 (by decide) rfl).trans kthis_18
            have kthis_24 : zI s118 this 24 = v2 := ((hTo.k t_this (by decide)).eI hEs118 (by decide) rfl).trans kthis_24
            obtain ⟨f119, f120⟩ := hφ
            obtain ⟨e121, e122, e123⟩ := f119 (show (zI s112 this 17).toInt = 1 from by rw [cz116]; omega)
            obtain ⟨v124, ev124⟩ : ∃ zz9 : Int32, zI s118 this 17 = zz9 := ⟨_, rfl⟩
            have qv124 : v124.toInt = (zI s118 this 17).toInt := by rw [ev124]
            have b125 : isB v124 := by have q9 : isB (zI s118 this 17) := hT.P (hT.k t_this (by decide)) (by decide); rw [ev124] at q9; exact q9
            have b125t := isB_t b125
            rw [(show zI s118 this 17 = v124 from ev124)] at e121
            rw [cz113] at e122
            rw [cz114] at e123
            refine lv_aload_n hx hb dX6_sampleTold_148 rfl (lv_at hl 1 rfl) ?_
            refine lv_dup hx hb dX6_sampleTold_149 rfl ?_
            refine va_get (D := κ.1) (ci := 6) (v := .int (zI s118 this 18)) (C := RX6) (T := TX6) (N := 27) hx hb hg inX6 hown hK (hT.o20 (hT.k t_this (by decide))).one 0 rfl rfl 18 (by decide) (hg _ k1237) (fun _ h9 => h9) rfl dX6_sampleTold_150 ?_
            rw [kthis_18]
            refine lv_iconst (v := 1) hx hb dX6_sampleTold_153 (by decide) ?_
            refine lv_iadd hx hb dX6_sampleTold_154 ?_
            first | refine g_add (by omega) (by omega) (fun t126 ht126 => ?_) | refine lv_topi (fun t126 ht126 => ?_)
            have hTo := hT
            refine pf20_18 hx hb hg hown hK hT (hT.k t_this (by decide)) rfl (hg _ k1237) dX6_sampleTold_155 (fun H locs s127 hus127 hT => ?_)
            have kthis_24 : zI s127 this 24 = v2 := (zput_o hus127 (Or.inr (by decide))).trans kthis_24
            have ev124 : zI s127 this 17 = v124 := (zput_o hus127 (Or.inr (by decide))).trans ev124
            have e122 : zI s127 this 15 = v92 := (zput_o hus127 (Or.inr (by decide))).trans e122
            have e123 : zI s127 this 16 = v93 := (zput_o hus127 (Or.inr (by decide))).trans e123
            have e128 : zI s127 this 18 = t126 := zput_at hus127
            subst hQ9
            exact t_v hx hb hr hlocks hT (Or.inr ⟨by rw [(show zI s127 this 17 = v124 from ev124)]; omega, by rw [(show zI s127 this 18 = t126 from e128)]; omega, by rw [(show zI s127 this 18 = t126 from e128)]; omega, co, po, z1, z2, by rw [(show zI s127 this 15 = v92 from e122)]; exact z3, by rw [(show zI s127 this 16 = v93 from e123)]; exact z4⟩) dX6_sampleTold_158
    have loop111 : ∀ (n9 : Nat) (ib : Int32) (u : Int32) (bb : Int32) (H : Heap) (locs : List Loc) (sg : Gh) (ls : Array Slot), TS κ gS2 σ0 sg s H locs → (zI sg this 18 = v4) → (zI sg this 14 = u) → (zI sg this 17 = bb) → ((bb.toInt = 0 ∧ (utkK tc Ln (unxt tc Ln sp) = 2 ∧ vv < uvl tc Ln (unxt tc Ln sp)) ∧ (∃ a : Nat, u.toInt = (a : Nat) ∧ a ≤ Ln ∧ uscn uisBl tc Ln a = (svq (utkK tc Ln) (unxt tc Ln) (unxt tc Ln sp))) ∧ zI sg this 15 = zI σ0 this 15 ∧ zI sg this 16 = zI σ0 this 16 ∧ (zI sg rQ nn).toInt = uvl tc Ln (unxt tc Ln sp) ∧ (∀ j : Nat, j < nn → zI sg rQ j = zI σ0 rQ j) ∧ ((ib.toInt = 1 ∧ utkK tc Ln (unxt tc Ln (unxt tc Ln sp)) = 4) ∨ (ib.toInt = 0 ∧ utkK tc Ln (unxt tc Ln (unxt tc Ln sp)) ≠ 4))) ∨ (bb.toInt = 1 ∧ ∃ co po : Int, umBad (utkK tc Ln) (unxt tc Ln) (uvl tc Ln) (uWd tc Ln) sp nn vv co po ∧ co ≠ 0 ∧ (zI sg this 15).toInt = co ∧ (zI sg this 16).toInt = po)) → (zI sg rV = zI σ0 rV) → lv_has ls 2 [(1, .int ib), (0, .ref this)] → ((0 : Int)) < n9 → tW p l e 2 49 κ s m #[.ref this] below meth c H locs Q9 (F0 m 111 ls []) := by
      intro n9
      induction n9 with
      | zero =>
        intro ib u bb H locs sg ls hT kthis_18 kthis_14 kthis_17 r3 q2 hl hm9
        exfalso
        omega
      | succ n9 ih9 =>
        have ih111 := ih9
        clear ih9
        intro ib u bb H locs s129 ls hT kthis_18 kthis_14 kthis_17 r3 q2 hl hm9
        have b130 : isB (zI s129 this 17) := hT.P (hT.k t_this (by decide)) (by decide)
        rw [kthis_17] at b130
        have b130t := isB_t b130
        rcases r3 with ⟨g1, g2, ⟨a, g3, g4, g5⟩, g6, g7, g8, g9, gib⟩ | ⟨g1, co, po, z1, z2, z3, z4⟩
        · skip
          obtain ⟨v131, ev131⟩ : ∃ zz9 : Int32, zI s129 this 15 = zz9 := ⟨_, rfl⟩
          have qv131 : v131.toInt = (zI s129 this 15).toInt := by rw [ev131]
          have zthis15 : zI σ0 this 15 = v131 := g6.symm.trans ev131
          obtain ⟨v132, ev132⟩ : ∃ zz9 : Int32, zI s129 this 16 = zz9 := ⟨_, rfl⟩
          have qv132 : v132.toInt = (zI s129 this 16).toInt := by rw [ev132]
          have zthis16 : zI σ0 this 16 = v132 := g7.symm.trans ev132
          refine lv_aload_n hx hb dX6_sampleTold_111 rfl (lv_at hl 1 rfl) ?_
          refine lv_iconst (v := 0) hx hb dX6_sampleTold_112 (by decide) ?_
          refine lv_sipush (v := 9999) hx hb dX6_sampleTold_113 (by decide) ?_
          have cz133 : zI s129 this 15 = v131 := ev131
          have cz134 : zI s129 this 16 = v132 := ev132
          have cz135 : zI s129 this 17 = bb := kthis_17
          have cz136 : zI s129 this 17 = bb := kthis_17
          have hTo := hT
          refine tVv (n := 2) (As := [.int 0, .int 9999]) (rest := []) hx hb hml hown hg hT hK hX (X6s_number l κ s129 this 0 9999  (hT.k t_this (by decide)) (hTX.tr (funext fun k => by rw [erT]; exact hT.eI trT (by decide) rfl rfl) (hT.eI t_this (by decide) rfl rfl)) (show (zI s129 this 17).toInt = 0 → (zI s129 this 14).toInt = (a : Nat) ∧ a ≤ Ln from fun q9 => ⟨by rw [(show zI s129 this 14 = u from kthis_14)]; omega, g4⟩)) sub_gN_gS2 (mwV k1384 k1386 k48 k92 k1387) ⟨rfl, by decide, by decide, by decide +kernel⟩ ⟨(Nat.le_of_ble_eq_true rfl), (Nat.le_of_ble_eq_true rfl)⟩ (hT.o20 (hT.k t_this (by decide))) rfl rfl hl.1 rfl (Nat.le_of_ble_eq_true rfl) dX6_sampleTold_116 zroom.rf (fun s138 H locs hφ hEs138 hT => ?_)
          have kthis_18 : zI s138 this 18 = v4 := ((hTo.k t_this (by decide)).eI hEs138 (by decide) rfl).trans kthis_18
          have Y139 : (zI s138 rQ nn).toInt = uvl tc Ln (unxt tc Ln sp) := by first | (rw [show zI s138 rQ = zI s129 rQ from funext fun k => (hTo.k trQ (by decide)).eI hEs138 (by decide) rfl]; exact g8) | rw [show zI s138 rQ = zI s129 rQ from funext fun k => (hTo.k trQ (by decide)).eI hEs138 (by decide) rfl]
          have Y140 : ∀ j : Nat, j < nn → zI s138 rQ j = zI σ0 rQ j := by first | (rw [show zI s138 rQ = zI s129 rQ from funext fun k => (hTo.k trQ (by decide)).eI hEs138 (by decide) rfl]; exact g9) | rw [show zI s138 rQ = zI s129 rQ from funext fun k => (hTo.k trQ (by decide)).eI hEs138 (by decide) rfl]
          have Y141 : zI s138 rV = zI σ0 rV := by first | (rw [show zI s138 rV = zI s129 rV from funext fun k => (hTo.k trV (by decide)).eI hEs138 (by decide) rfl]; exact q2) | rw [show zI s138 rV = zI s129 rV from funext fun k => (hTo.k trV (by decide)).eI hEs138 (by decide) rfl]
          obtain ⟨f142, f143⟩ := hφ
          have p9 := f143 (show (zI s129 this 17).toInt = 0 from by rw [cz135]; omega)
          rw [g5] at p9
          clear f142 f143
          rcases p9 with ⟨p1, p2, p3, p4, p5, p6, p7, p8⟩ | ⟨co, p1, p2, p3, p4⟩
          · skip
            obtain ⟨v144, ev144⟩ : ∃ zz9 : Int32, zI s138 this 14 = zz9 := ⟨_, rfl⟩
            have qv144 : v144.toInt = (zI s138 this 14).toInt := by rw [ev144]
            rw [(show zI s138 this 14 = v144 from ev144)] at p2
            obtain ⟨v145, ev145⟩ : ∃ zz9 : Int32, zI s138 this 17 = zz9 := ⟨_, rfl⟩
            have qv145 : v145.toInt = (zI s138 this 17).toInt := by rw [ev145]
            have b146 : isB v145 := by have q9 : isB (zI s138 this 17) := hT.P (hT.k t_this (by decide)) (by decide); rw [ev145] at q9; exact q9
            have b146t := isB_t b146
            rw [(show zI s138 this 17 = v145 from ev145)] at p6
            obtain ⟨v147, ev147⟩ : ∃ zz9 : Int32, zI s138 this 15 = zz9 := ⟨_, rfl⟩
            have qv147 : v147.toInt = (zI s138 this 15).toInt := by rw [ev147]
            have zthis15 : zI σ0 this 15 = v147 := zthis15.trans (cz133.symm.trans (p7.symm.trans ev147))
            obtain ⟨v148, ev148⟩ : ∃ zz9 : Int32, zI s138 this 16 = zz9 := ⟨_, rfl⟩
            have qv148 : v148.toInt = (zI s138 this 16).toInt := by rw [ev148]
            have zthis16 : zI σ0 this 16 = v148 := zthis16.trans (cz134.symm.trans (p8.symm.trans ev148))
            obtain ⟨v149, ev149⟩ : ∃ zz9 : Int32, zI s138 this 24 = zz9 := ⟨_, rfl⟩
            have qv149 : v149.toInt = (zI s138 this 24).toInt := by rw [ev149]
            rw [(show zI s138 this 24 = v149 from ev149)] at p3
            exact loop119 (((0 : Int)).toNat + 1) ib v144 v145 v149 _ _ _ _ hT kthis_18 ev144 ev145 ev149 (Or.inl ⟨by omega, g2, p1, by omega, ((show zI s138 this 15 = v147 from ev147).trans zthis15.symm), ((show zI s138 this 16 = v148 from ev148).trans zthis16.symm), Y139, Y140, gib, by omega⟩) Y141 hl (by omega)
          · skip
            obtain ⟨v150, ev150⟩ : ∃ zz9 : Int32, zI s138 this 17 = zz9 := ⟨_, rfl⟩
            have qv150 : v150.toInt = (zI s138 this 17).toInt := by rw [ev150]
            have b151 : isB v150 := by have q9 : isB (zI s138 this 17) := hT.P (hT.k t_this (by decide)) (by decide); rw [ev150] at q9; exact q9
            have b151t := isB_t b151
            rw [(show zI s138 this 17 = v150 from ev150)] at p2
            obtain ⟨v152, ev152⟩ : ∃ zz9 : Int32, zI s138 this 15 = zz9 := ⟨_, rfl⟩
            have qv152 : v152.toInt = (zI s138 this 15).toInt := by rw [ev152]
            rw [(show zI s138 this 15 = v152 from ev152)] at p3
            obtain ⟨v153, ev153⟩ : ∃ zz9 : Int32, zI s138 this 16 = zz9 := ⟨_, rfl⟩
            have qv153 : v153.toInt = (zI s138 this 16).toInt := by rw [ev153]
            rw [(show zI s138 this 16 = v153 from ev153)] at p4
            obtain ⟨v154, ev154⟩ : ∃ zz9 : Int32, zI s138 this 14 = zz9 := ⟨_, rfl⟩
            have qv154 : v154.toInt = (zI s138 this 14).toInt := by rw [ev154]
            obtain ⟨v155, ev155⟩ : ∃ zz9 : Int32, zI s138 this 24 = zz9 := ⟨_, rfl⟩
            have qv155 : v155.toInt = (zI s138 this 24).toInt := by rw [ev155]
            exact loop119 (((0 : Int)).toNat + 1) ib v154 v150 v155 _ _ _ _ hT kthis_18 ev154 ev150 ev155 (Or.inr ⟨by omega, co, ((svq (utkK tc Ln) (unxt tc Ln) (unxt tc Ln sp)) : Nat), Or.inr (Or.inr ⟨h4, by omega, Or.inr (Or.inr ⟨g2.1, g2.2, Or.inl ⟨by rw [svl_q]; exact (p1.elim (fun q9 => q9.1) (fun q9 => by exfalso; have z9 := uvl_b q9.1; omega)), p1.elim (fun q9 => q9.2) (fun q9 => by exfalso; have z9 := uvl_b q9.1; omega), by rw [svl_q]⟩⟩)⟩), by omega, by rw [(show zI s138 this 15 = v152 from ev152)]; exact p3, by rw [(show zI s138 this 16 = v153 from ev153)]; exact p4⟩) Y141 hl (by omega)
        · skip
          obtain ⟨v156, ev156⟩ : ∃ zz9 : Int32, zI s129 this 15 = zz9 := ⟨_, rfl⟩
          have qv156 : v156.toInt = (zI s129 this 15).toInt := by rw [ev156]
          rw [(show zI s129 this 15 = v156 from ev156)] at z3
          obtain ⟨v157, ev157⟩ : ∃ zz9 : Int32, zI s129 this 16 = zz9 := ⟨_, rfl⟩
          have qv157 : v157.toInt = (zI s129 this 16).toInt := by rw [ev157]
          rw [(show zI s129 this 16 = v157 from ev157)] at z4
          refine lv_aload_n hx hb dX6_sampleTold_111 rfl (lv_at hl 1 rfl) ?_
          refine lv_iconst (v := 0) hx hb dX6_sampleTold_112 (by decide) ?_
          refine lv_sipush (v := 9999) hx hb dX6_sampleTold_113 (by decide) ?_
          have cz158 : zI s129 this 15 = v156 := ev156
          have cz159 : zI s129 this 16 = v157 := ev157
          have cz160 : zI s129 this 17 = bb := kthis_17
          have cz161 : zI s129 this 17 = bb := kthis_17
          have hTo := hT
          refine tVv (n := 2) (As := [.int 0, .int 9999]) (rest := []) hx hb hml hown hg hT hK hX (X6s_number l κ s129 this 0 9999  (hT.k t_this (by decide)) (hTX.tr (funext fun k => by rw [erT]; exact hT.eI trT (by decide) rfl rfl) (hT.eI t_this (by decide) rfl rfl)) (show (zI s129 this 17).toInt = 0 → (zI s129 this 14).toInt = ((0 : Nat) : Int) ∧ 0 ≤ Ln from fun q9 => absurd q9 (by rw [(show zI s129 this 17 = bb from kthis_17)]; omega))) sub_gN_gS2 (mwV k1384 k1386 k48 k92 k1387) ⟨rfl, by decide, by decide, by decide +kernel⟩ ⟨(Nat.le_of_ble_eq_true rfl), (Nat.le_of_ble_eq_true rfl)⟩ (hT.o20 (hT.k t_this (by decide))) rfl rfl hl.1 rfl (Nat.le_of_ble_eq_true rfl) dX6_sampleTold_116 zroom.rf (fun s163 H locs hφ hEs163 hT => ?_)
          have kthis_18 : zI s163 this 18 = v4 := ((hTo.k t_this (by decide)).eI hEs163 (by decide) rfl).trans kthis_18
          have Y164 : zI s163 rV = zI σ0 rV := by first | (rw [show zI s163 rV = zI s129 rV from funext fun k => (hTo.k trV (by decide)).eI hEs163 (by decide) rfl]; exact q2) | rw [show zI s163 rV = zI s129 rV from funext fun k => (hTo.k trV (by decide)).eI hEs163 (by decide) rfl]
          obtain ⟨f165, f166⟩ := hφ
          obtain ⟨e167, e168, e169⟩ := f165 (show (zI s129 this 17).toInt = 1 from by rw [cz161]; omega)
          obtain ⟨v170, ev170⟩ : ∃ zz9 : Int32, zI s163 this 17 = zz9 := ⟨_, rfl⟩
          have qv170 : v170.toInt = (zI s163 this 17).toInt := by rw [ev170]
          have b171 : isB v170 := by have q9 : isB (zI s163 this 17) := hT.P (hT.k t_this (by decide)) (by decide); rw [ev170] at q9; exact q9
          have b171t := isB_t b171
          rw [(show zI s163 this 17 = v170 from ev170)] at e167
          rw [cz158] at e168
          rw [cz159] at e169
          obtain ⟨v172, ev172⟩ : ∃ zz9 : Int32, zI s163 this 14 = zz9 := ⟨_, rfl⟩
          have qv172 : v172.toInt = (zI s163 this 14).toInt := by rw [ev172]
          obtain ⟨v173, ev173⟩ : ∃ zz9 : Int32, zI s163 this 24 = zz9 := ⟨_, rfl⟩
          have qv173 : v173.toInt = (zI s163 this 24).toInt := by rw [ev173]
          exact loop119 (((0 : Int)).toNat + 1) ib v172 v170 v173 _ _ _ _ hT kthis_18 ev172 ev170 ev173 (Or.inr ⟨by omega, co, po, z1, z2, by rw [(show zI s163 this 15 = v156 from e168)]; exact z3, by rw [(show zI s163 this 16 = v157 from e169)]; exact z4⟩) Y164 hl (by omega)
    have loop58 : ∀ (n9 : Nat)  (u : Int32) (bb : Int32) (val : Int32) (H : Heap) (locs : List Loc) (sg : Gh) (ls : Array Slot), TS κ gS2 σ0 sg s H locs → (zI sg this 18 = v4) → (zI sg this 14 = u) → (zI sg this 17 = bb) → (zI sg this 24 = val) → ((bb.toInt = 0 ∧ (utkK tc Ln (unxt tc Ln sp) = 2 ∧ vv < uvl tc Ln (unxt tc Ln sp)) ∧ u.toInt = (utkE tc Ln (unxt tc Ln sp) : Nat) ∧ val.toInt = uvl tc Ln (unxt tc Ln sp) ∧ zI sg this 15 = zI σ0 this 15 ∧ zI sg this 16 = zI σ0 this 16) ∨ (bb.toInt = 1 ∧ ∃ co po : Int, umBad (utkK tc Ln) (unxt tc Ln) (uvl tc Ln) (uWd tc Ln) sp nn vv co po ∧ co ≠ 0 ∧ (zI sg this 15).toInt = co ∧ (zI sg this 16).toInt = po)) → (zI sg rQ = zI σ0 rQ) → (zI sg rV = zI σ0 rV) → lv_has ls 2 [(0, .ref this)] → ((0 : Int)) < n9 → tW p l e 2 49 κ s m #[.ref this] below meth c H locs Q9 (F0 m 58 ls []) := by
      intro n9
      induction n9 with
      | zero =>
        intro u bb val H locs sg ls hT kthis_18 kthis_14 kthis_17 kthis_24 p3 q1 q2 hl hm9
        exfalso
        omega
      | succ n9 ih9 =>
        have ih58 := ih9
        clear ih9
        intro u bb val H locs s174 ls hT kthis_18 kthis_14 kthis_17 kthis_24 p3 q1 q2 hl hm9
        have b175 : isB (zI s174 this 17) := hT.P (hT.k t_this (by decide)) (by decide)
        rw [kthis_17] at b175
        have b175t := isB_t b175
        rcases p3 with ⟨g1, g2, g3, g4, g6, g7⟩ | ⟨g1, co, po, z1, z2, z3, z4⟩
        · skip
          obtain ⟨v176, ev176⟩ : ∃ zz9 : Int32, zI s174 this 15 = zz9 := ⟨_, rfl⟩
          have qv176 : v176.toInt = (zI s174 this 15).toInt := by rw [ev176]
          have zthis15 : zI σ0 this 15 = v176 := g6.symm.trans ev176
          obtain ⟨v177, ev177⟩ : ∃ zz9 : Int32, zI s174 this 16 = zz9 := ⟨_, rfl⟩
          have qv177 : v177.toInt = (zI s174 this 16).toInt := by rw [ev177]
          have zthis16 : zI σ0 this 16 = v177 := g7.symm.trans ev177
          refine lv_aload_n hx hb dX6_sampleTold_58 rfl (lv_at hl 0 rfl) ?_
          refine va_get (D := κ.1) (ci := 6) (v := .ref (kR κ this 25)) (C := RX6) (T := TX6) (N := 27) hx hb hg inX6 hown hK (hT.o20 (hT.k t_this (by decide))).one 0 rfl rfl 25 (by decide) (hg _ k1244) (fun _ h9 => h9) rfl dX6_sampleTold_59 ?_
          rw [erQ]
          refine lv_aload_n hx hb dX6_sampleTold_62 rfl (lv_at hl 0 rfl) ?_
          refine va_get (D := κ.1) (ci := 6) (v := .int (zI s174 this 18)) (C := RX6) (T := TX6) (N := 27) hx hb hg inX6 hown hK (hT.o20 (hT.k t_this (by decide))).one 0 rfl rfl 18 (by decide) (hg _ k1237) (fun _ h9 => h9) rfl dX6_sampleTold_63 ?_
          rw [kthis_18]
          refine lv_aload_n hx hb dX6_sampleTold_66 rfl (lv_at hl 0 rfl) ?_
          refine va_get (D := κ.1) (ci := 6) (v := .int (zI s174 this 24)) (C := RX6) (T := TX6) (N := 27) hx hb hg inX6 hown hK (hT.o20 (hT.k t_this (by decide))).one 0 rfl rfl 24 (by decide) (hg _ k1243) (fun _ h9 => h9) rfl dX6_sampleTold_67 ?_
          rw [kthis_24]
          have hTo := hT
          refine tasti (n := 48) hx hb hK hT (hT.k trQ (by decide)) ⟨by decide, by decide⟩ (fun _ _ _ => rfl) (fun _ _ => trivial) (fun _ => rfl) (by omega) (by omega) dX6_sampleTold_70 (fun H locs s178 hus178 hT => ?_)
          have kthis_18 : zI s178 this 18 = v4 := (zput_o hus178 (Or.inl ((hTo.k t_this (by decide)).ne (hTo.k trQ (by decide)) (by decide)))).trans kthis_18
          have kthis_14 : zI s178 this 14 = u := (zput_o hus178 (Or.inl ((hTo.k t_this (by decide)).ne (hTo.k trQ (by decide)) (by decide)))).trans kthis_14
          have kthis_17 : zI s178 this 17 = bb := (zput_o hus178 (Or.inl ((hTo.k t_this (by decide)).ne (hTo.k trQ (by decide)) (by decide)))).trans kthis_17
          have kthis_24 : zI s178 this 24 = val := (zput_o hus178 (Or.inl ((hTo.k t_this (by decide)).ne (hTo.k trQ (by decide)) (by decide)))).trans kthis_24
          have ev176 : zI s178 this 15 = v176 := (zput_o hus178 (Or.inl ((hTo.k t_this (by decide)).ne (hTo.k trQ (by decide)) (by decide)))).trans ev176
          have ev177 : zI s178 this 16 = v177 := (zput_o hus178 (Or.inl ((hTo.k t_this (by decide)).ne (hTo.k trQ (by decide)) (by decide)))).trans ev177
          have Y179 : zI s178 rV = zI σ0 rV := by first | (rw [show zI s178 rV = zI s174 rV from zput_Io hus178 ((hTo.k trV (by decide)).ne (hTo.k trQ (by decide)) (by decide))]; exact q2) | rw [show zI s178 rV = zI s174 rV from zput_Io hus178 ((hTo.k trV (by decide)).ne (hTo.k trQ (by decide)) (by decide))]
          have w9 : ix v4 = nn := by unfold ix; omega
          have Y180 : (zI s178 rQ nn).toInt = uvl tc Ln (unxt tc Ln sp) := by rw [← w9, zput_at hus178]; omega
          have Y181 : ∀ j : Nat, j < nn → zI s178 rQ j = zI σ0 rQ j := fun j hj => by rw [zput_o hus178 (Or.inr (by omega)), q1]
          refine lv_aload_n hx hb dX6_sampleTold_71 rfl (lv_at hl 0 rfl) ?_
          refine va_get (D := κ.1) (ci := 6) (v := .int (zI s178 this 17)) (C := RX6) (T := TX6) (N := 27) hx hb hg inX6 hown hK (hT.o20 (hT.k t_this (by decide))).one 0 rfl rfl 17 (by decide) (hg _ k1236) (fun _ h9 => h9) rfl dX6_sampleTold_72 ?_
          rw [kthis_17]
          refine lv_if_ne (tgt := 91) hx hb dX6_sampleTold_75 (by decide) (fun c9 => absurd (gi_ne c9) (by omega)) (fun _ => ?_)
          refine lv_aload_n hx hb dX6_sampleTold_78 rfl (lv_at hl 0 rfl) ?_
          have hTo := hT
          refine tVi (n := 0) (As := []) (rest := []) hx hb hml hown hg hT hK hX (X6s_here l κ s178 this  (hT.k t_this (by decide)) (hTX.tr (funext fun k => by rw [erT]; exact hT.eI trT (by decide) rfl rfl) (hT.eI t_this (by decide) rfl rfl)) (show (zI s178 this 14).toInt = (utkE tc Ln (unxt tc Ln sp) : Nat) from by rw [(show zI s178 this 14 = u from kthis_14)]; omega) (utkE_le (unxt_le h3))) sub_gH_gS2 (mwV k1345 k1347 k42 k92 k1348) ⟨rfl, by decide, by decide, by decide +kernel⟩ ⟨(Nat.le_of_ble_eq_true rfl), (Nat.le_of_ble_eq_true rfl)⟩ (hT.o20 (hT.k t_this (by decide))) rfl rfl hl.1 rfl (Nat.le_of_ble_eq_true rfl) dX6_sampleTold_79 zroom.rf (fun x182 s183 H locs hφ hEs183 hT => ?_)
          have kthis_18 : zI s183 this 18 = v4 := ((hTo.k t_this (by decide)).eI hEs183 (by decide) rfl).trans kthis_18
          have kthis_17 : zI s183 this 17 = bb := ((hTo.k t_this (by decide)).eI hEs183 (by decide) rfl).trans kthis_17
          have kthis_24 : zI s183 this 24 = val := ((hTo.k t_this (by decide)).eI hEs183 (by decide) rfl).trans kthis_24
          have ev176 : zI s183 this 15 = v176 := ((hTo.k t_this (by decide)).eI hEs183 (by decide) rfl).trans ev176
          have ev177 : zI s183 this 16 = v177 := ((hTo.k t_this (by decide)).eI hEs183 (by decide) rfl).trans ev177
          have Y184 : (zI s183 rQ nn).toInt = uvl tc Ln (unxt tc Ln sp) := by first | (rw [show zI s183 rQ = zI s178 rQ from funext fun k => (hTo.k trQ (by decide)).eI hEs183 (by decide) rfl]; exact Y180) | rw [show zI s183 rQ = zI s178 rQ from funext fun k => (hTo.k trQ (by decide)).eI hEs183 (by decide) rfl]
          have Y185 : ∀ j : Nat, j < nn → zI s183 rQ j = zI σ0 rQ j := by first | (rw [show zI s183 rQ = zI s178 rQ from funext fun k => (hTo.k trQ (by decide)).eI hEs183 (by decide) rfl]; exact Y181) | rw [show zI s183 rQ = zI s178 rQ from funext fun k => (hTo.k trQ (by decide)).eI hEs183 (by decide) rfl]
          have Y186 : zI s183 rV = zI σ0 rV := by first | (rw [show zI s183 rV = zI s178 rV from funext fun k => (hTo.k trV (by decide)).eI hEs183 (by decide) rfl]; exact Y179) | rw [show zI s183 rV = zI s178 rV from funext fun k => (hTo.k trV (by decide)).eI hEs183 (by decide) rfl]
          obtain ⟨f187, f188⟩ := hφ
          rw [show uscn uisBl tc Ln (utkE tc Ln (unxt tc Ln sp)) = unxt tc Ln (unxt tc Ln sp) from rfl] at f187 f188
          obtain ⟨v189, ev189⟩ : ∃ zz9 : Int32, zI s183 this 14 = zz9 := ⟨_, rfl⟩
          have qv189 : v189.toInt = (zI s183 this 14).toInt := by rw [ev189]
          rw [(show zI s183 this 14 = v189 from ev189)] at f187
          refine lv_bipush (v := 45) hx hb dX6_sampleTold_82 (by decide) ?_
          refine lv_icmp_ne (tgt := 91) hx hb dX6_sampleTold_84 (by decide) (fun c9 => ?_) (fun c9 => ?_)
          · have c6 := gi_ne c9
            have hk4 : utkK tc Ln (unxt tc Ln (unxt tc Ln sp)) ≠ 4 := fun q9 => by have z9 := tk4_iff.mp q9; omega
            have hsv : (svq (utkK tc Ln) (unxt tc Ln) (unxt tc Ln sp)) = (unxt tc Ln (unxt tc Ln sp)) := if_neg hk4
            refine lv_iconst (v := 0) hx hb dX6_sampleTold_91 (by decide) ?_
            refine lv_istore_n (lv' := [(1, .int 0), (0, .ref this)]) hx hb dX6_sampleTold_92 rfl hl (by decide) rfl (fun ls hl => ?_)
            refine lv_aload_n hx hb dX6_sampleTold_93 rfl (lv_at hl 1 rfl) ?_
            refine lv_dup hx hb dX6_sampleTold_94 rfl ?_
            refine va_get (D := κ.1) (ci := 6) (v := .int (zI s183 this 14)) (C := RX6) (T := TX6) (N := 27) hx hb hg inX6 hown hK (hT.o20 (hT.k t_this (by decide))).one 0 rfl rfl 14 (by decide) (hg _ k1233) (fun _ h9 => h9) rfl dX6_sampleTold_95 ?_
            rw [ev189]
            refine lv_iload_n hx hb dX6_sampleTold_98 rfl (lv_at hl 0 rfl) ?_
            refine lv_if_eq (tgt := 106) hx hb dX6_sampleTold_99 (by decide) (fun _ => ?_) (fun c9 => absurd (by decide) c9)
            refine lv_iconst (v := 0) hx hb dX6_sampleTold_106 (by decide) ?_
            refine lv_iadd hx hb dX6_sampleTold_107 ?_
            first | refine g_add (by omega) (by omega) (fun t190 ht190 => ?_) | refine lv_topi (fun t190 ht190 => ?_)
            have hTo := hT
            refine pf20_14 hx hb hg hown hK hT (hT.k t_this (by decide)) rfl (hg _ k1233) dX6_sampleTold_108 (fun H locs s191 hus191 hT => ?_)
            have kthis_18 : zI s191 this 18 = v4 := (zput_o hus191 (Or.inr (by decide))).trans kthis_18
            have kthis_17 : zI s191 this 17 = bb := (zput_o hus191 (Or.inr (by decide))).trans kthis_17
            have kthis_24 : zI s191 this 24 = val := (zput_o hus191 (Or.inr (by decide))).trans kthis_24
            have ev176 : zI s191 this 15 = v176 := (zput_o hus191 (Or.inr (by decide))).trans ev176
            have ev177 : zI s191 this 16 = v177 := (zput_o hus191 (Or.inr (by decide))).trans ev177
            have Y192 : (zI s191 rQ nn).toInt = uvl tc Ln (unxt tc Ln sp) := by first | (rw [show zI s191 rQ = zI s183 rQ from zput_Io hus191 ((hTo.k trQ (by decide)).ne (hTo.k t_this (by decide)) (by decide))]; exact Y184) | rw [show zI s191 rQ = zI s183 rQ from zput_Io hus191 ((hTo.k trQ (by decide)).ne (hTo.k t_this (by decide)) (by decide))]
            have Y193 : ∀ j : Nat, j < nn → zI s191 rQ j = zI σ0 rQ j := by first | (rw [show zI s191 rQ = zI s183 rQ from zput_Io hus191 ((hTo.k trQ (by decide)).ne (hTo.k t_this (by decide)) (by decide))]; exact Y185) | rw [show zI s191 rQ = zI s183 rQ from zput_Io hus191 ((hTo.k trQ (by decide)).ne (hTo.k t_this (by decide)) (by decide))]
            have Y194 : zI s191 rV = zI σ0 rV := by first | (rw [show zI s191 rV = zI s183 rV from zput_Io hus191 ((hTo.k trV (by decide)).ne (hTo.k t_this (by decide)) (by decide))]; exact Y186) | rw [show zI s191 rV = zI s183 rV from zput_Io hus191 ((hTo.k trV (by decide)).ne (hTo.k t_this (by decide)) (by decide))]
            have e195 : zI s191 this 14 = t190 := zput_at hus191
            exact loop111 (((0 : Int)).toNat + 1) 0 t190 bb _ _ _ _ hT kthis_18 e195 kthis_17 (Or.inl ⟨by omega, g2, ⟨(unxt tc Ln (unxt tc Ln sp)), by omega, unxt_le (unxt_le h3), by rw [hsv]; exact uscn_id⟩, ((show zI s191 this 15 = v176 from ev176).trans zthis15.symm), ((show zI s191 this 16 = v177 from ev177).trans zthis16.symm), Y192, Y193, Or.inr ⟨by omega, hk4⟩⟩) Y194 hl (by omega)
          · have c7 := gi_eq c9
            have hk4 : utkK tc Ln (unxt tc Ln (unxt tc Ln sp)) = 4 := tk4_iff.mpr (by omega)
            have hE4 := (utk_minus (c := tc) (L := Ln) (s := (unxt tc Ln (unxt tc Ln sp))) (tk4_iff.mp hk4).1 (tk4_iff.mp hk4).2).2
            have hsv : (svq (utkK tc Ln) (unxt tc Ln) (unxt tc Ln sp)) = unxt tc Ln (unxt tc Ln (unxt tc Ln sp)) := if_pos hk4
            refine lv_iconst (v := 1) hx hb dX6_sampleTold_87 (by decide) ?_
            refine lv_goto (tgt := 92) hx hb dX6_sampleTold_88 (by decide) ?_
            refine lv_istore_n (lv' := [(1, .int 1), (0, .ref this)]) hx hb dX6_sampleTold_92 rfl hl (by decide) rfl (fun ls hl => ?_)
            refine lv_aload_n hx hb dX6_sampleTold_93 rfl (lv_at hl 1 rfl) ?_
            refine lv_dup hx hb dX6_sampleTold_94 rfl ?_
            refine va_get (D := κ.1) (ci := 6) (v := .int (zI s183 this 14)) (C := RX6) (T := TX6) (N := 27) hx hb hg inX6 hown hK (hT.o20 (hT.k t_this (by decide))).one 0 rfl rfl 14 (by decide) (hg _ k1233) (fun _ h9 => h9) rfl dX6_sampleTold_95 ?_
            rw [ev189]
            refine lv_iload_n hx hb dX6_sampleTold_98 rfl (lv_at hl 0 rfl) ?_
            refine lv_if_eq (tgt := 106) hx hb dX6_sampleTold_99 (by decide) (fun c9 => absurd c9 (by decide)) (fun _ => ?_)
            refine lv_iconst (v := 1) hx hb dX6_sampleTold_102 (by decide) ?_
            refine lv_goto (tgt := 107) hx hb dX6_sampleTold_103 (by decide) ?_
            refine lv_iadd hx hb dX6_sampleTold_107 ?_
            first | refine g_add (by omega) (by omega) (fun t196 ht196 => ?_) | refine lv_topi (fun t196 ht196 => ?_)
            have hTo := hT
            refine pf20_14 hx hb hg hown hK hT (hT.k t_this (by decide)) rfl (hg _ k1233) dX6_sampleTold_108 (fun H locs s197 hus197 hT => ?_)
            have kthis_18 : zI s197 this 18 = v4 := (zput_o hus197 (Or.inr (by decide))).trans kthis_18
            have kthis_17 : zI s197 this 17 = bb := (zput_o hus197 (Or.inr (by decide))).trans kthis_17
            have kthis_24 : zI s197 this 24 = val := (zput_o hus197 (Or.inr (by decide))).trans kthis_24
            have ev176 : zI s197 this 15 = v176 := (zput_o hus197 (Or.inr (by decide))).trans ev176
            have ev177 : zI s197 this 16 = v177 := (zput_o hus197 (Or.inr (by decide))).trans ev177
            have Y198 : (zI s197 rQ nn).toInt = uvl tc Ln (unxt tc Ln sp) := by first | (rw [show zI s197 rQ = zI s183 rQ from zput_Io hus197 ((hTo.k trQ (by decide)).ne (hTo.k t_this (by decide)) (by decide))]; exact Y184) | rw [show zI s197 rQ = zI s183 rQ from zput_Io hus197 ((hTo.k trQ (by decide)).ne (hTo.k t_this (by decide)) (by decide))]
            have Y199 : ∀ j : Nat, j < nn → zI s197 rQ j = zI σ0 rQ j := by first | (rw [show zI s197 rQ = zI s183 rQ from zput_Io hus197 ((hTo.k trQ (by decide)).ne (hTo.k t_this (by decide)) (by decide))]; exact Y185) | rw [show zI s197 rQ = zI s183 rQ from zput_Io hus197 ((hTo.k trQ (by decide)).ne (hTo.k t_this (by decide)) (by decide))]
            have Y200 : zI s197 rV = zI σ0 rV := by first | (rw [show zI s197 rV = zI s183 rV from zput_Io hus197 ((hTo.k trV (by decide)).ne (hTo.k t_this (by decide)) (by decide))]; exact Y186) | rw [show zI s197 rV = zI s183 rV from zput_Io hus197 ((hTo.k trV (by decide)).ne (hTo.k t_this (by decide)) (by decide))]
            have e201 : zI s197 this 14 = t196 := zput_at hus197
            exact loop111 (((0 : Int)).toNat + 1) 1 t196 bb _ _ _ _ hT kthis_18 e201 kthis_17 (Or.inl ⟨by omega, g2, ⟨utkE tc Ln (unxt tc Ln (unxt tc Ln sp)), by omega, utkE_le (unxt_le (unxt_le h3)), by rw [hsv]; rfl⟩, ((show zI s197 this 15 = v176 from ev176).trans zthis15.symm), ((show zI s197 this 16 = v177 from ev177).trans zthis16.symm), Y198, Y199, Or.inl ⟨by omega, hk4⟩⟩) Y200 hl (by omega)
        · skip
          obtain ⟨v202, ev202⟩ : ∃ zz9 : Int32, zI s174 this 15 = zz9 := ⟨_, rfl⟩
          have qv202 : v202.toInt = (zI s174 this 15).toInt := by rw [ev202]
          rw [(show zI s174 this 15 = v202 from ev202)] at z3
          obtain ⟨v203, ev203⟩ : ∃ zz9 : Int32, zI s174 this 16 = zz9 := ⟨_, rfl⟩
          have qv203 : v203.toInt = (zI s174 this 16).toInt := by rw [ev203]
          rw [(show zI s174 this 16 = v203 from ev203)] at z4
          refine lv_aload_n hx hb dX6_sampleTold_58 rfl (lv_at hl 0 rfl) ?_
          refine va_get (D := κ.1) (ci := 6) (v := .ref (kR κ this 25)) (C := RX6) (T := TX6) (N := 27) hx hb hg inX6 hown hK (hT.o20 (hT.k t_this (by decide))).one 0 rfl rfl 25 (by decide) (hg _ k1244) (fun _ h9 => h9) rfl dX6_sampleTold_59 ?_
          rw [erQ]
          refine lv_aload_n hx hb dX6_sampleTold_62 rfl (lv_at hl 0 rfl) ?_
          refine va_get (D := κ.1) (ci := 6) (v := .int (zI s174 this 18)) (C := RX6) (T := TX6) (N := 27) hx hb hg inX6 hown hK (hT.o20 (hT.k t_this (by decide))).one 0 rfl rfl 18 (by decide) (hg _ k1237) (fun _ h9 => h9) rfl dX6_sampleTold_63 ?_
          rw [kthis_18]
          refine lv_aload_n hx hb dX6_sampleTold_66 rfl (lv_at hl 0 rfl) ?_
          refine va_get (D := κ.1) (ci := 6) (v := .int (zI s174 this 24)) (C := RX6) (T := TX6) (N := 27) hx hb hg inX6 hown hK (hT.o20 (hT.k t_this (by decide))).one 0 rfl rfl 24 (by decide) (hg _ k1243) (fun _ h9 => h9) rfl dX6_sampleTold_67 ?_
          rw [kthis_24]
          have hTo := hT
          refine tasti (n := 48) hx hb hK hT (hT.k trQ (by decide)) ⟨by decide, by decide⟩ (fun _ _ _ => rfl) (fun _ _ => trivial) (fun _ => rfl) (by omega) (by omega) dX6_sampleTold_70 (fun H locs s204 hus204 hT => ?_)
          have kthis_18 : zI s204 this 18 = v4 := (zput_o hus204 (Or.inl ((hTo.k t_this (by decide)).ne (hTo.k trQ (by decide)) (by decide)))).trans kthis_18
          have kthis_14 : zI s204 this 14 = u := (zput_o hus204 (Or.inl ((hTo.k t_this (by decide)).ne (hTo.k trQ (by decide)) (by decide)))).trans kthis_14
          have kthis_17 : zI s204 this 17 = bb := (zput_o hus204 (Or.inl ((hTo.k t_this (by decide)).ne (hTo.k trQ (by decide)) (by decide)))).trans kthis_17
          have kthis_24 : zI s204 this 24 = val := (zput_o hus204 (Or.inl ((hTo.k t_this (by decide)).ne (hTo.k trQ (by decide)) (by decide)))).trans kthis_24
          have ev202 : zI s204 this 15 = v202 := (zput_o hus204 (Or.inl ((hTo.k t_this (by decide)).ne (hTo.k trQ (by decide)) (by decide)))).trans ev202
          have ev203 : zI s204 this 16 = v203 := (zput_o hus204 (Or.inl ((hTo.k t_this (by decide)).ne (hTo.k trQ (by decide)) (by decide)))).trans ev203
          have Y205 : zI s204 rV = zI σ0 rV := by first | (rw [show zI s204 rV = zI s174 rV from zput_Io hus204 ((hTo.k trV (by decide)).ne (hTo.k trQ (by decide)) (by decide))]; exact q2) | rw [show zI s204 rV = zI s174 rV from zput_Io hus204 ((hTo.k trV (by decide)).ne (hTo.k trQ (by decide)) (by decide))]
          refine lv_aload_n hx hb dX6_sampleTold_71 rfl (lv_at hl 0 rfl) ?_
          refine va_get (D := κ.1) (ci := 6) (v := .int (zI s204 this 17)) (C := RX6) (T := TX6) (N := 27) hx hb hg inX6 hown hK (hT.o20 (hT.k t_this (by decide))).one 0 rfl rfl 17 (by decide) (hg _ k1236) (fun _ h9 => h9) rfl dX6_sampleTold_72 ?_
          rw [kthis_17]
          refine lv_if_ne (tgt := 91) hx hb dX6_sampleTold_75 (by decide) (fun _ => ?_) (fun c9 => absurd (gi_eq c9) (by omega))
          refine lv_iconst (v := 0) hx hb dX6_sampleTold_91 (by decide) ?_
          refine lv_istore_n (lv' := [(1, .int 0), (0, .ref this)]) hx hb dX6_sampleTold_92 rfl hl (by decide) rfl (fun ls hl => ?_)
          refine lv_aload_n hx hb dX6_sampleTold_93 rfl (lv_at hl 1 rfl) ?_
          refine lv_dup hx hb dX6_sampleTold_94 rfl ?_
          refine va_get (D := κ.1) (ci := 6) (v := .int (zI s204 this 14)) (C := RX6) (T := TX6) (N := 27) hx hb hg inX6 hown hK (hT.o20 (hT.k t_this (by decide))).one 0 rfl rfl 14 (by decide) (hg _ k1233) (fun _ h9 => h9) rfl dX6_sampleTold_95 ?_
          rw [kthis_14]
          refine lv_iload_n hx hb dX6_sampleTold_98 rfl (lv_at hl 0 rfl) ?_
          refine lv_if_eq (tgt := 106) hx hb dX6_sampleTold_99 (by decide) (fun _ => ?_) (fun c9 => absurd (by decide) c9)
          refine lv_iconst (v := 0) hx hb dX6_sampleTold_106 (by decide) ?_
          refine lv_iadd hx hb dX6_sampleTold_107 ?_
          first | refine g_add (by omega) (by omega) (fun t206 ht206 => ?_) | refine lv_topi (fun t206 ht206 => ?_)
          have hTo := hT
          refine pf20_14 hx hb hg hown hK hT (hT.k t_this (by decide)) rfl (hg _ k1233) dX6_sampleTold_108 (fun H locs s207 hus207 hT => ?_)
          have kthis_18 : zI s207 this 18 = v4 := (zput_o hus207 (Or.inr (by decide))).trans kthis_18
          have kthis_17 : zI s207 this 17 = bb := (zput_o hus207 (Or.inr (by decide))).trans kthis_17
          have kthis_24 : zI s207 this 24 = val := (zput_o hus207 (Or.inr (by decide))).trans kthis_24
          have ev202 : zI s207 this 15 = v202 := (zput_o hus207 (Or.inr (by decide))).trans ev202
          have ev203 : zI s207 this 16 = v203 := (zput_o hus207 (Or.inr (by decide))).trans ev203
          have Y208 : zI s207 rV = zI σ0 rV := by first | (rw [show zI s207 rV = zI s204 rV from zput_Io hus207 ((hTo.k trV (by decide)).ne (hTo.k t_this (by decide)) (by decide))]; exact Y205) | rw [show zI s207 rV = zI s204 rV from zput_Io hus207 ((hTo.k trV (by decide)).ne (hTo.k t_this (by decide)) (by decide))]
          have e209 : zI s207 this 14 = t206 := zput_at hus207
          exact loop111 (((0 : Int)).toNat + 1) 0 t206 bb _ _ _ _ hT kthis_18 e209 kthis_17 (Or.inr ⟨by omega, co, po, z1, z2, by rw [(show zI s207 this 15 = v202 from ev202)]; exact z3, by rw [(show zI s207 this 16 = v203 from ev203)]; exact z4⟩) Y208 hl (by omega)
    refine lv_aload_n hx hb dX6_sampleTold_19 rfl (lv_at hl 0 rfl) ?_
    refine lv_aload_n hx hb dX6_sampleTold_20 rfl (lv_at hl 0 rfl) ?_
    have hTo := hT
    refine tVi (n := 0) (As := []) (rest := [.ref this]) hx hb hml hown hg hT hK hX (X6s_wordEnd l κ σ0 this  (hT.k t_this (by decide)) hTX (show (zI σ0 this 14).toInt = ((sp : Nat) : Int) from by rw [(show zI σ0 this 14 = v3 from ev3)]; omega) h3) sub_fE_gS2 (mwV k1349 k1351 k43 k92 k1352) ⟨rfl, by decide, by decide, by decide +kernel⟩ ⟨(Nat.le_of_ble_eq_true rfl), (Nat.le_of_ble_eq_true rfl)⟩ (hT.o20 (hT.k t_this (by decide))) rfl rfl hl.1 rfl (Nat.le_of_ble_eq_true rfl) dX6_sampleTold_21 zroom.rf (fun x210 s211 H locs hφ hEs211 hT => ?_)
    have ev1 : zI s211 this 17 = v1 := ((hTo.k t_this (by decide)).eI hEs211 (by decide) rfl).trans ev1
    have ev3 : zI s211 this 14 = v3 := ((hTo.k t_this (by decide)).eI hEs211 (by decide) rfl).trans ev3
    have ev4 : zI s211 this 18 = v4 := ((hTo.k t_this (by decide)).eI hEs211 (by decide) rfl).trans ev4
    have ev5 : zI s211 this 15 = v5 := ((hTo.k t_this (by decide)).eI hEs211 (by decide) rfl).trans ev5
    have ev6 : zI s211 this 16 = v6 := ((hTo.k t_this (by decide)).eI hEs211 (by decide) rfl).trans ev6
    have Y212 : zI s211 rQ = zI σ0 rQ := by first | (rw [show zI s211 rQ = zI σ0 rQ from funext fun k => (hTo.k trQ (by decide)).eI hEs211 (by decide) rfl]; exact q0) | rw [show zI s211 rQ = zI σ0 rQ from funext fun k => (hTo.k trQ (by decide)).eI hEs211 (by decide) rfl]
    have Y213 : zI s211 rV = zI σ0 rV := by first | (rw [show zI s211 rV = zI σ0 rV from funext fun k => (hTo.k trV (by decide)).eI hEs211 (by decide) rfl]; exact q0v) | rw [show zI s211 rV = zI σ0 rV from funext fun k => (hTo.k trV (by decide)).eI hEs211 (by decide) rfl]
    have f214 := hφ
    have hTo := hT
    refine pf20_14 hx hb hg hown hK hT (hT.k t_this (by decide)) rfl (hg _ k1233) dX6_sampleTold_24 (fun H locs s215 hus215 hT => ?_)
    have ev1 : zI s215 this 17 = v1 := (zput_o hus215 (Or.inr (by decide))).trans ev1
    have ev4 : zI s215 this 18 = v4 := (zput_o hus215 (Or.inr (by decide))).trans ev4
    have ev5 : zI s215 this 15 = v5 := (zput_o hus215 (Or.inr (by decide))).trans ev5
    have ev6 : zI s215 this 16 = v6 := (zput_o hus215 (Or.inr (by decide))).trans ev6
    have Y216 : zI s215 rQ = zI σ0 rQ := by first | (rw [show zI s215 rQ = zI s211 rQ from zput_Io hus215 ((hTo.k trQ (by decide)).ne (hTo.k t_this (by decide)) (by decide))]; exact Y212) | rw [show zI s215 rQ = zI s211 rQ from zput_Io hus215 ((hTo.k trQ (by decide)).ne (hTo.k t_this (by decide)) (by decide))]
    have Y217 : zI s215 rV = zI σ0 rV := by first | (rw [show zI s215 rV = zI s211 rV from zput_Io hus215 ((hTo.k trV (by decide)).ne (hTo.k t_this (by decide)) (by decide))]; exact Y213) | rw [show zI s215 rV = zI s211 rV from zput_Io hus215 ((hTo.k trV (by decide)).ne (hTo.k t_this (by decide)) (by decide))]
    have e218 : zI s215 this 14 = x210 := zput_at hus215
    refine lv_aload_n hx hb dX6_sampleTold_27 rfl (lv_at hl 0 rfl) ?_
    refine lv_aload_n hx hb dX6_sampleTold_28 rfl (lv_at hl 0 rfl) ?_
    refine va_get (D := κ.1) (ci := 6) (v := .int (zI s215 this 18)) (C := RX6) (T := TX6) (N := 27) hx hb hg inX6 hown hK (hT.o20 (hT.k t_this (by decide))).one 0 rfl rfl 18 (by decide) (hg _ k1237) (fun _ h9 => h9) rfl dX6_sampleTold_29 ?_
    rw [ev4]
    refine lv_if_ne (tgt := 39) hx hb dX6_sampleTold_32 (by decide) (fun c9 => ?_) (fun c9 => ?_)
    · have c8 := gi_ne c9
      refine lv_aload_n hx hb dX6_sampleTold_39 rfl (lv_at hl 0 rfl) ?_
      refine va_get (D := κ.1) (ci := 6) (v := .ref (kR κ this 25)) (C := RX6) (T := TX6) (N := 27) hx hb hg inX6 hown hK (hT.o20 (hT.k t_this (by decide))).one 0 rfl rfl 25 (by decide) (hg _ k1244) (fun _ h9 => h9) rfl dX6_sampleTold_40 ?_
      rw [erQ]
      refine lv_aload_n hx hb dX6_sampleTold_43 rfl (lv_at hl 0 rfl) ?_
      refine va_get (D := κ.1) (ci := 6) (v := .int (zI s215 this 18)) (C := RX6) (T := TX6) (N := 27) hx hb hg inX6 hown hK (hT.o20 (hT.k t_this (by decide))).one 0 rfl rfl 18 (by decide) (hg _ k1237) (fun _ h9 => h9) rfl dX6_sampleTold_44 ?_
      rw [ev4]
      refine lv_iconst (v := 1) hx hb dX6_sampleTold_47 (by decide) ?_
      refine lv_isub hx hb dX6_sampleTold_48 ?_
      first | refine g_sub (by omega) (by omega) (fun t219 ht219 => ?_) | refine lv_topi (fun t219 ht219 => ?_)
      refine va_iald hx hb hK (hT.o27 (hT.k trQ (by decide))).one 0 0 rfl rfl (g_in (by omega) (by omega)) dX6_sampleTold_49 ?_
      refine lv_topi (fun t220 ht220 => ?_)
      have y9 : t220.toInt = vv := by have z9 := h7.resolve_left (by omega); rw [← z9.2, ht220, show nn - 1 = ix t219 from by unfold ix; omega]; exact congrArg (fun q9 => (q9 (ix t219)).toInt) Y216
      refine lv_iconst (v := 1) hx hb dX6_sampleTold_50 (by decide) ?_
      refine lv_iadd hx hb dX6_sampleTold_51 ?_
      first | refine g_add (by omega) (by omega) (fun t221 ht221 => ?_) | refine lv_topi (fun t221 ht221 => ?_)
      refine lv_sipush (v := 9999) hx hb dX6_sampleTold_52 (by decide) ?_
      have cz222 : zI s215 this 15 = v5 := ev5
      have cz223 : zI s215 this 16 = v6 := ev6
      have cz224 : zI s215 this 17 = v1 := ev1
      have hTo := hT
      refine tVv (n := 2) (As := [.int t221, .int 9999]) (rest := []) hx hb hml hown hg hT hK hX (X6s_number l κ s215 this t221 9999  (hT.k t_this (by decide)) (hTX.tr (funext fun k => by rw [erT]; exact hT.eI trT (by decide) rfl rfl) (hT.eI t_this (by decide) rfl rfl)) (show (zI s215 this 17).toInt = 0 → (zI s215 this 14).toInt = (utkE tc Ln sp : Nat) ∧ utkE tc Ln sp ≤ Ln from fun q9 => ⟨by rw [(show zI s215 this 14 = x210 from e218)]; omega, utkE_le h3⟩)) sub_gN_gS2 (mwV k1384 k1386 k48 k92 k1387) ⟨rfl, by decide, by decide, by decide +kernel⟩ ⟨(Nat.le_of_ble_eq_true rfl), (Nat.le_of_ble_eq_true rfl)⟩ (hT.o20 (hT.k t_this (by decide))) rfl rfl hl.1 rfl (Nat.le_of_ble_eq_true rfl) dX6_sampleTold_55 zroom.rf (fun s226 H locs hφ hEs226 hT => ?_)
      have ev4 : zI s226 this 18 = v4 := ((hTo.k t_this (by decide)).eI hEs226 (by decide) rfl).trans ev4
      have Y227 : zI s226 rQ = zI σ0 rQ := by first | (rw [show zI s226 rQ = zI s215 rQ from funext fun k => (hTo.k trQ (by decide)).eI hEs226 (by decide) rfl]; exact Y216) | rw [show zI s226 rQ = zI s215 rQ from funext fun k => (hTo.k trQ (by decide)).eI hEs226 (by decide) rfl]
      have Y228 : zI s226 rV = zI σ0 rV := by first | (rw [show zI s226 rV = zI s215 rV from funext fun k => (hTo.k trV (by decide)).eI hEs226 (by decide) rfl]; exact Y217) | rw [show zI s226 rV = zI s215 rV from funext fun k => (hTo.k trV (by decide)).eI hEs226 (by decide) rfl]
      obtain ⟨f229, f230⟩ := hφ
      have m9 := f230 (show (zI s215 this 17).toInt = 0 from by rw [cz224]; omega)
      rw [show uscn uisBl tc Ln (utkE tc Ln sp) = unxt tc Ln sp from rfl] at m9
      clear f229 f230
      rcases m9 with ⟨m1, m2, m3, m4, m5, m6, m7, m8⟩ | ⟨co, m1, m2, m3, m4⟩
      · skip
        obtain ⟨v231, ev231⟩ : ∃ zz9 : Int32, zI s226 this 14 = zz9 := ⟨_, rfl⟩
        have qv231 : v231.toInt = (zI s226 this 14).toInt := by rw [ev231]
        rw [(show zI s226 this 14 = v231 from ev231)] at m2
        obtain ⟨v232, ev232⟩ : ∃ zz9 : Int32, zI s226 this 24 = zz9 := ⟨_, rfl⟩
        have qv232 : v232.toInt = (zI s226 this 24).toInt := by rw [ev232]
        rw [(show zI s226 this 24 = v232 from ev232)] at m3
        obtain ⟨v233, ev233⟩ : ∃ zz9 : Int32, zI s226 this 17 = zz9 := ⟨_, rfl⟩
        have qv233 : v233.toInt = (zI s226 this 17).toInt := by rw [ev233]
        have b234 : isB v233 := by have q9 : isB (zI s226 this 17) := hT.P (hT.k t_this (by decide)) (by decide); rw [ev233] at q9; exact q9
        have b234t := isB_t b234
        rw [(show zI s226 this 17 = v233 from ev233)] at m6
        obtain ⟨v235, ev235⟩ : ∃ zz9 : Int32, zI s226 this 15 = zz9 := ⟨_, rfl⟩
        have qv235 : v235.toInt = (zI s226 this 15).toInt := by rw [ev235]
        have zthis15 : zI σ0 this 15 = v235 := zthis15.trans (cz222.symm.trans (m7.symm.trans ev235))
        obtain ⟨v236, ev236⟩ : ∃ zz9 : Int32, zI s226 this 16 = zz9 := ⟨_, rfl⟩
        have qv236 : v236.toInt = (zI s226 this 16).toInt := by rw [ev236]
        have zthis16 : zI σ0 this 16 = v236 := zthis16.trans (cz223.symm.trans (m8.symm.trans ev236))
        exact loop58 (((0 : Int)).toNat + 1) v231 v233 v232 _ _ _ _ hT ev4 ev231 ev233 ev232 (Or.inl ⟨by omega, ⟨m1, by omega⟩, by omega, by omega, ((show zI s226 this 15 = v235 from ev235).trans zthis15.symm), ((show zI s226 this 16 = v236 from ev236).trans zthis16.symm)⟩) Y227 Y228 hl (by omega)
      · skip
        obtain ⟨v237, ev237⟩ : ∃ zz9 : Int32, zI s226 this 17 = zz9 := ⟨_, rfl⟩
        have qv237 : v237.toInt = (zI s226 this 17).toInt := by rw [ev237]
        have b238 : isB v237 := by have q9 : isB (zI s226 this 17) := hT.P (hT.k t_this (by decide)) (by decide); rw [ev237] at q9; exact q9
        have b238t := isB_t b238
        rw [(show zI s226 this 17 = v237 from ev237)] at m2
        obtain ⟨v239, ev239⟩ : ∃ zz9 : Int32, zI s226 this 15 = zz9 := ⟨_, rfl⟩
        have qv239 : v239.toInt = (zI s226 this 15).toInt := by rw [ev239]
        rw [(show zI s226 this 15 = v239 from ev239)] at m3
        obtain ⟨v240, ev240⟩ : ∃ zz9 : Int32, zI s226 this 16 = zz9 := ⟨_, rfl⟩
        have qv240 : v240.toInt = (zI s226 this 16).toInt := by rw [ev240]
        rw [(show zI s226 this 16 = v240 from ev240)] at m4
        obtain ⟨v241, ev241⟩ : ∃ zz9 : Int32, zI s226 this 14 = zz9 := ⟨_, rfl⟩
        have qv241 : v241.toInt = (zI s226 this 14).toInt := by rw [ev241]
        obtain ⟨v242, ev242⟩ : ∃ zz9 : Int32, zI s226 this 24 = zz9 := ⟨_, rfl⟩
        have qv242 : v242.toInt = (zI s226 this 24).toInt := by rw [ev242]
        exact loop58 (((0 : Int)).toNat + 1) v241 v237 v242 _ _ _ _ hT ev4 ev241 ev237 ev242 (Or.inr ⟨by omega, co, ((unxt tc Ln sp) : Nat), Or.inr (Or.inr ⟨h4, by omega, m1.elim (fun q9 => Or.inl ⟨q9.1, q9.2, rfl⟩) (fun q9 => Or.inr (Or.inl ⟨q9.1, by have z9 := uvl_b q9.1; omega, q9.2.2, rfl⟩))⟩), by omega, by rw [(show zI s226 this 15 = v239 from ev239)]; omega, by rw [(show zI s226 this 16 = v240 from ev240)]; omega⟩) Y227 Y228 hl (by omega)
    · have c9 := gi_eq c9
      refine lv_iconst (v := 0) hx hb dX6_sampleTold_35 (by decide) ?_
      refine lv_goto (tgt := 52) hx hb dX6_sampleTold_36 (by decide) ?_
      refine lv_sipush (v := 9999) hx hb dX6_sampleTold_52 (by decide) ?_
      have cz243 : zI s215 this 15 = v5 := ev5
      have cz244 : zI s215 this 16 = v6 := ev6
      have cz245 : zI s215 this 17 = v1 := ev1
      have hTo := hT
      refine tVv (n := 2) (As := [.int 0, .int 9999]) (rest := []) hx hb hml hown hg hT hK hX (X6s_number l κ s215 this 0 9999  (hT.k t_this (by decide)) (hTX.tr (funext fun k => by rw [erT]; exact hT.eI trT (by decide) rfl rfl) (hT.eI t_this (by decide) rfl rfl)) (show (zI s215 this 17).toInt = 0 → (zI s215 this 14).toInt = (utkE tc Ln sp : Nat) ∧ utkE tc Ln sp ≤ Ln from fun q9 => ⟨by rw [(show zI s215 this 14 = x210 from e218)]; omega, utkE_le h3⟩)) sub_gN_gS2 (mwV k1384 k1386 k48 k92 k1387) ⟨rfl, by decide, by decide, by decide +kernel⟩ ⟨(Nat.le_of_ble_eq_true rfl), (Nat.le_of_ble_eq_true rfl)⟩ (hT.o20 (hT.k t_this (by decide))) rfl rfl hl.1 rfl (Nat.le_of_ble_eq_true rfl) dX6_sampleTold_55 zroom.rf (fun s247 H locs hφ hEs247 hT => ?_)
      have ev4 : zI s247 this 18 = v4 := ((hTo.k t_this (by decide)).eI hEs247 (by decide) rfl).trans ev4
      have Y248 : zI s247 rQ = zI σ0 rQ := by first | (rw [show zI s247 rQ = zI s215 rQ from funext fun k => (hTo.k trQ (by decide)).eI hEs247 (by decide) rfl]; exact Y216) | rw [show zI s247 rQ = zI s215 rQ from funext fun k => (hTo.k trQ (by decide)).eI hEs247 (by decide) rfl]
      have Y249 : zI s247 rV = zI σ0 rV := by first | (rw [show zI s247 rV = zI s215 rV from funext fun k => (hTo.k trV (by decide)).eI hEs247 (by decide) rfl]; exact Y217) | rw [show zI s247 rV = zI s215 rV from funext fun k => (hTo.k trV (by decide)).eI hEs247 (by decide) rfl]
      obtain ⟨f250, f251⟩ := hφ
      have m9 := f251 (show (zI s215 this 17).toInt = 0 from by rw [cz245]; omega)
      rw [show uscn uisBl tc Ln (utkE tc Ln sp) = unxt tc Ln sp from rfl] at m9
      clear f250 f251
      rcases m9 with ⟨m1, m2, m3, m4, m5, m6, m7, m8⟩ | ⟨co, m1, m2, m3, m4⟩
      · skip
        obtain ⟨v252, ev252⟩ : ∃ zz9 : Int32, zI s247 this 14 = zz9 := ⟨_, rfl⟩
        have qv252 : v252.toInt = (zI s247 this 14).toInt := by rw [ev252]
        rw [(show zI s247 this 14 = v252 from ev252)] at m2
        obtain ⟨v253, ev253⟩ : ∃ zz9 : Int32, zI s247 this 24 = zz9 := ⟨_, rfl⟩
        have qv253 : v253.toInt = (zI s247 this 24).toInt := by rw [ev253]
        rw [(show zI s247 this 24 = v253 from ev253)] at m3
        obtain ⟨v254, ev254⟩ : ∃ zz9 : Int32, zI s247 this 17 = zz9 := ⟨_, rfl⟩
        have qv254 : v254.toInt = (zI s247 this 17).toInt := by rw [ev254]
        have b255 : isB v254 := by have q9 : isB (zI s247 this 17) := hT.P (hT.k t_this (by decide)) (by decide); rw [ev254] at q9; exact q9
        have b255t := isB_t b255
        rw [(show zI s247 this 17 = v254 from ev254)] at m6
        obtain ⟨v256, ev256⟩ : ∃ zz9 : Int32, zI s247 this 15 = zz9 := ⟨_, rfl⟩
        have qv256 : v256.toInt = (zI s247 this 15).toInt := by rw [ev256]
        have zthis15 : zI σ0 this 15 = v256 := zthis15.trans (cz243.symm.trans (m7.symm.trans ev256))
        obtain ⟨v257, ev257⟩ : ∃ zz9 : Int32, zI s247 this 16 = zz9 := ⟨_, rfl⟩
        have qv257 : v257.toInt = (zI s247 this 16).toInt := by rw [ev257]
        have zthis16 : zI σ0 this 16 = v257 := zthis16.trans (cz244.symm.trans (m8.symm.trans ev257))
        exact loop58 (((0 : Int)).toNat + 1) v252 v254 v253 _ _ _ _ hT ev4 ev252 ev254 ev253 (Or.inl ⟨by omega, ⟨m1, by omega⟩, by omega, by omega, ((show zI s247 this 15 = v256 from ev256).trans zthis15.symm), ((show zI s247 this 16 = v257 from ev257).trans zthis16.symm)⟩) Y248 Y249 hl (by omega)
      · skip
        obtain ⟨v258, ev258⟩ : ∃ zz9 : Int32, zI s247 this 17 = zz9 := ⟨_, rfl⟩
        have qv258 : v258.toInt = (zI s247 this 17).toInt := by rw [ev258]
        have b259 : isB v258 := by have q9 : isB (zI s247 this 17) := hT.P (hT.k t_this (by decide)) (by decide); rw [ev258] at q9; exact q9
        have b259t := isB_t b259
        rw [(show zI s247 this 17 = v258 from ev258)] at m2
        obtain ⟨v260, ev260⟩ : ∃ zz9 : Int32, zI s247 this 15 = zz9 := ⟨_, rfl⟩
        have qv260 : v260.toInt = (zI s247 this 15).toInt := by rw [ev260]
        rw [(show zI s247 this 15 = v260 from ev260)] at m3
        obtain ⟨v261, ev261⟩ : ∃ zz9 : Int32, zI s247 this 16 = zz9 := ⟨_, rfl⟩
        have qv261 : v261.toInt = (zI s247 this 16).toInt := by rw [ev261]
        rw [(show zI s247 this 16 = v261 from ev261)] at m4
        obtain ⟨v262, ev262⟩ : ∃ zz9 : Int32, zI s247 this 14 = zz9 := ⟨_, rfl⟩
        have qv262 : v262.toInt = (zI s247 this 14).toInt := by rw [ev262]
        obtain ⟨v263, ev263⟩ : ∃ zz9 : Int32, zI s247 this 24 = zz9 := ⟨_, rfl⟩
        have qv263 : v263.toInt = (zI s247 this 24).toInt := by rw [ev263]
        exact loop58 (((0 : Int)).toNat + 1) v262 v258 v263 _ _ _ _ hT ev4 ev262 ev258 ev263 (Or.inr ⟨by omega, co, ((unxt tc Ln sp) : Nat), Or.inr (Or.inr ⟨h4, by omega, m1.elim (fun q9 => Or.inl ⟨q9.1, q9.2, rfl⟩) (fun q9 => Or.inr (Or.inl ⟨q9.1, by have z9 := uvl_b q9.1; omega, q9.2.2, rfl⟩))⟩), by omega, by rw [(show zI s247 this 15 = v260 from ev260)]; omega, by rw [(show zI s247 this 16 = v261 from ev261)]; omega⟩) Y248 Y249 hl (by omega)
  · have c10 := gi_eq c9
    refine lv_aload_n hx hb dX6_sampleTold_9 rfl (lv_at hl 0 rfl) ?_
    refine lv_iconst (v := 4) hx hb dX6_sampleTold_10 (by decide) ?_
    refine lv_aload_n hx hb dX6_sampleTold_11 rfl (lv_at hl 0 rfl) ?_
    refine va_get (D := κ.1) (ci := 6) (v := .int (zI σ0 this 14)) (C := RX6) (T := TX6) (N := 27) hx hb hg inX6 hown hK (hT.o20 (hT.k t_this (by decide))).one 0 rfl rfl 14 (by decide) (hg _ k1233) (fun _ h9 => h9) rfl dX6_sampleTold_12 ?_
    rw [ev3]
    have cz264 : zI σ0 this 17 = v1 := ev1
    have hTo := hT
    refine tVv (n := 2) (As := [.int 4, .int v3]) (rest := []) hx hb hml hown hg hT hK hX (X6s_wrong l κ σ0 this 4 v3  (hT.k t_this (by decide)) ) sub_gB_gS2 (mwV k1361 k1363 k45 k92 k1364) ⟨rfl, by decide, by decide, by decide +kernel⟩ ⟨(Nat.le_of_ble_eq_true rfl), (Nat.le_of_ble_eq_true rfl)⟩ (hT.o20 (hT.k t_this (by decide))) rfl rfl hl.1 rfl (Nat.le_of_ble_eq_true rfl) dX6_sampleTold_15 zroom.rf (fun s266 H locs hφ hEs266 hT => ?_)
    have ev3 : zI s266 this 14 = v3 := ((hTo.k t_this (by decide)).eI hEs266 (by decide) rfl).trans ev3
    have ev4 : zI s266 this 18 = v4 := ((hTo.k t_this (by decide)).eI hEs266 (by decide) rfl).trans ev4
    have Y267 : zI s266 rQ = zI σ0 rQ := by first | (rw [show zI s266 rQ = zI σ0 rQ from funext fun k => (hTo.k trQ (by decide)).eI hEs266 (by decide) rfl]; exact q0) | rw [show zI s266 rQ = zI σ0 rQ from funext fun k => (hTo.k trQ (by decide)).eI hEs266 (by decide) rfl]
    have Y268 : zI s266 rV = zI σ0 rV := by first | (rw [show zI s266 rV = zI σ0 rV from funext fun k => (hTo.k trV (by decide)).eI hEs266 (by decide) rfl]; exact q0v) | rw [show zI s266 rV = zI σ0 rV from funext fun k => (hTo.k trV (by decide)).eI hEs266 (by decide) rfl]
    have f269 := hφ
    obtain ⟨wb91, wb92, wb93⟩ := (f269.resolve_left (fun q9 => by have z9 := q9.1; rw [cz264] at z9; omega)).2
    obtain ⟨v270, ev270⟩ : ∃ zz9 : Int32, zI s266 this 17 = zz9 := ⟨_, rfl⟩
    have qv270 : v270.toInt = (zI s266 this 17).toInt := by rw [ev270]
    have b271 : isB v270 := by have q9 : isB (zI s266 this 17) := hT.P (hT.k t_this (by decide)) (by decide); rw [ev270] at q9; exact q9
    have b271t := isB_t b271
    rw [(show zI s266 this 17 = v270 from ev270)] at wb91
    obtain ⟨v272, ev272⟩ : ∃ zz9 : Int32, zI s266 this 15 = zz9 := ⟨_, rfl⟩
    have qv272 : v272.toInt = (zI s266 this 15).toInt := by rw [ev272]
    rw [(show zI s266 this 15 = v272 from ev272)] at wb92
    obtain ⟨v273, ev273⟩ : ∃ zz9 : Int32, zI s266 this 16 = zz9 := ⟨_, rfl⟩
    have qv273 : v273.toInt = (zI s266 this 16).toInt := by rw [ev273]
    rw [(show zI s266 this 16 = v273 from ev273)] at wb93
    subst hQ9
    exact t_v hx hb hr hlocks hT (Or.inr ⟨by rw [(show zI s266 this 17 = v270 from ev270)]; omega, by rw [(show zI s266 this 18 = v4 from ev4)]; omega, by rw [(show zI s266 this 18 = v4 from ev4)]; omega, 4, (sp : Nat), Or.inr (Or.inl ⟨h4, by omega, rfl, rfl⟩), by decide, by rw [(show zI s266 this 15 = v272 from ev272)]; omega, by rw [(show zI s266 this 16 = v273 from ev273)]; omega⟩) dX6_sampleTold_18
